/-! THE CLASS'S WORLD; which cells are whose -/
/-- kinds of cells: of the class's objects their class, 8 of all others; 100 rows of Object, 101 of Entry, 200 of numbers -/
def kd (Γ : Gm) (e : va_E) : Nat := match e with
  | .inr (ci, _) => if ci < 8 then ci else 8
  | .inl (c, _, .inr (.inr (.inr (.inr _)))) => if c = gC Γ 3 then 101 else 100
  | .inl _ => 200
/-- the cells of these kinds are as they were -/
def hm_kd (ks : Nat → Bool) (Γ : Gm) (f f' : Hm) : Prop := ∀ (q : Nat) (e : va_E), f q = some e → ks (kd Γ e) = true → f' q = some e
def kL : Nat → Bool := fun k => decide (k = 0) || decide (k = 3) || decide (k = 4) || decide (k = 6) || decide (k = 7) || decide (k = 100)
def kD : Nat → Bool := fun k => decide (k = 1) || decide (k = 2) || decide (k = 5) || decide (k = 101)
def kM : Nat → Bool := fun k => decide (k = 8) || decide (k = 200)
def kC : Nat → Bool := fun k => kL k || kD k
theorem hm_kd.rf {ks : Nat → Bool} {Γ : Gm} {f : Hm} : hm_kd ks Γ f f := fun _ _ h _ => h
theorem hm_kd.tr {ks : Nat → Bool} {Γ : Gm} {f g h : Hm} (h1 : hm_kd ks Γ f g) (h2 : hm_kd ks Γ g h) : hm_kd ks Γ f h := fun q e hq he => h2 q e (h1 q e hq he) he
theorem hm_kd.mono {ks ks' : Nat → Bool} {Γ : Gm} {f g : Hm} (h : hm_kd ks Γ f g) (hk : ∀ k, ks' k = true → ks k = true) : hm_kd ks' Γ f g := fun q e hq he => h q e hq (hk _ he)
theorem hm_kd.of {ks : Nat → Bool} {Γ : Gm} {S : Nat → Prop} {f f' : Hm} (h : hm_k S f f') (hS : ∀ q e, S q → f q = some e → ks (kd Γ e) = false) : hm_kd ks Γ f f' := fun q e hq he => h q e (fun hs => by rw [hS q e hs hq] at he; cases he) hq
theorem hm_kd.up {ks : Nat → Bool} {Γ : Gm} {f : Hm} {a : Nat} {e e' : va_E} (ha : f a = some e) (hk : ks (kd Γ e) = false) : hm_kd ks Γ f (hm_up f a e') := .of (hm_k.rf.up (S := fun q => q = a) rfl) (fun q x hq hx => by rw [hq, ha] at hx; injection hx with hx; rw [← hx]; exact hk)
theorem hm_kd.upN {ks : Nat → Bool} {Γ : Gm} {f : Hm} {a : Nat} {e' : va_E} (ha : f a = none) : hm_kd ks Γ f (hm_up f a e') := .of ((hm_k.rf (S := fun _ => False)).upN ha) (fun _ _ h => h.elim)
theorem kd_O {Γ : Gm} (h : gC Γ 3 ≠ gC Γ 4) {n : Nat} {g : Nat → Option Nat} : kd Γ (eO Γ n g) = 100 := if_neg (fun q => h q.symm)
theorem kd_N {Γ : Gm} {n : Nat} {g : Nat → Option Nat} : kd Γ (eN Γ n g) = 101 := if_pos rfl
/-- a trace: its player, board, z, push -/
abbrev TR : Type := Nat × (Nat → Nat) × Nat × Int32
abbrev tx5 (x : TR) : TX := (nI x.1, b5 x.2.1, nI x.2.2.1, x.2.2.2)
abbrev tx4 (x : TR) : TX := (nI x.1, b4 x.2.1, nI x.2.2.1, x.2.2.2)
def setG (gs : Nat → GS) (i : Nat) (y : GS) : Nat → GS := fun j => if j = i then y else gs j
theorem setG_s {gs : Nat → GS} {i : Nat} {y : GS} : setG gs i y i = y := if_pos rfl
theorem setG_n {gs : Nat → GS} {i j : Nat} {y : GS} (h : j ≠ i) : setG gs i y j = gs j := if_neg h
def mS (m0 : Nat) (r : Nat → Nat) : Nat → Prop := fun q => q = m0 ∨ ∃ k, k < 28 ∧ q = r k
/-- the class's lists and objects -/
def CL (Γ : Gm) (f : Hm) (x0 lp lg lt ca tr pl : Nat) (mf : Nat → Int32) (so sh sm : Int64) (np : Nat) (mon : Nat → Int32) (ng : Nat) (gs : Nat → GS) (nt : Nat) (ts : Nat → TR) (lim : Int32) (rf sp : Int64) (rr : Nat) : Prop :=
  f x0 = some (eR 7 [.ref lp, .ref lg, .ref lt, .ref ca, .ref tr, .ref pl, .int lim, .long rf, .long so, .long sp, .long sh, .long sm]) ∧ ∃ (aP cP : Nat) (P : Nat → Nat) (aG cG : Nat) (G : Nat → Nat) (aT cT : Nat) (T : Nat → Nat),
    (LI Γ f lp aP cP np P ∧ cP ≤ 90 ∧ (∀ i, i < np → f (P i) = some (eR 4 [.int (nI i), .int (mf i), .int (mon i)])) ∧ ∀ a b, a < np → b < np → P a = P b → a = b) ∧
    (LI Γ f lg aG cG ng G ∧ cG ≤ 90 ∧ (∀ i, i < ng → f (G i) = some (gx P i (gs i))) ∧ ∀ a b, a < ng → b < ng → G a = G b → a = b) ∧
    (LI Γ f lt aT cT nt T ∧ cT ≤ 90 ∧ ∀ i, i < nt → f (T i) = some (tx (tx5 (ts i)))) ∧
    (lp ≠ lg ∧ lp ≠ lt ∧ lg ≠ lt) ∧ (aP = aG → ¬ gB Γ ≤ aP) ∧ (aP = aT → ¬ gB Γ ≤ aP) ∧ (aG = aT → ¬ gB Γ ≤ aG)
/-- .. its caches and searches -/
def CD (Γ : Gm) (f : Hm) (ca tr pl rr : Nat) (E : Nat → EV) (cn us : Int32) : Prop :=
  ∃ (sl : Nat) (en : Nat → Nat) (ca1 sl1 : Nat) (en1 : Nat → Nat) (E1 : Nat → EV) (cn1 rm1 us1 u1 u2 u3 : Int32) (ca2 sl2 : Nat),
    CA Γ f ca sl 64 en E cn (nI rr) us ∧ CA Γ f ca1 sl1 64 en1 E1 cn1 rm1 us1 ∧ f tr = some (eR 5 [.ref ca1, .int u1, .int u2, .int u3]) ∧ PLN Γ f pl ca2 sl2 ∧ (ca ≠ ca1 ∧ ca ≠ ca2 ∧ ca1 ≠ ca2 ∧ tr ≠ pl) ∧ ∀ i j, i < 64 → j < 64 → en i ≠ en1 j
/-- the class's world -/
def CW (Γ : Gm) (f : Hm) (x0 : Nat) (mf : Nat → Int32) (E : Nat → EV) (cn us : Int32) (so sh sm : Int64) (np : Nat) (mon : Nat → Int32) (ng : Nat) (gs : Nat → GS) (nt : Nat) (ts : Nat → TR) (lim : Int32) (rf sp : Int64) (rr : Nat) : Prop :=
  ∃ lp lg lt ca tr pl : Nat, CL Γ f x0 lp lg lt ca tr pl mf so sh sm np mon ng gs nt ts lim rf sp rr ∧ CD Γ f ca tr pl rr E cn us
theorem LI.kpt {Γ : Gm} {f f' : Hm} {a ar cap n : Nat} {L : Nat → Nat} (h : LI Γ f a ar cap n L) (h34 : gC Γ 3 ≠ gC Γ 4) (hf : hm_kd kL Γ f f') : LI Γ f' a ar cap n L := by
  obtain ⟨⟨mo, g1⟩, ⟨g, g2, g3⟩, g4⟩ := h
  exact ⟨⟨mo, hf _ _ g1 rfl⟩, ⟨g, hf _ _ g2 (by rw [kd_O h34]; rfl), g3⟩, g4⟩
theorem CA.kpt {Γ : Gm} {f f' : Hm} {c sl n : Nat} {en : Nat → Nat} {E : Nat → EV} {cn rm us : Int32} (h : CA Γ f c sl n en E cn rm us) (hf : hm_kd kD Γ f f') : CA Γ f' c sl n en E cn rm us := by
  obtain ⟨g1, ⟨g, g2, g3⟩, g4, g5⟩ := h
  exact ⟨hf _ _ g1 rfl, ⟨g, hf _ _ g2 (by rw [kd_N]; rfl), g3⟩, fun i hi => hf _ _ (g4 i hi) rfl, g5⟩
theorem PLN.kpt {Γ : Gm} {f f' : Hm} {pl ca2 sl2 : Nat} (h : PLN Γ f pl ca2 sl2) (hf : hm_kd kD Γ f f') : PLN Γ f' pl ca2 sl2 := by
  obtain ⟨⟨a, b, c, h1⟩, en, E, cn, rm, us, h2⟩ := h
  exact ⟨⟨a, b, c, hf _ _ h1 rfl⟩, en, E, cn, rm, us, h2.kpt hf⟩
theorem CL.kpt {Γ : Gm} {f f' : Hm} {x0 lp lg lt ca tr pl : Nat} {mf : Nat → Int32} {so sh sm : Int64} {np : Nat} {mon : Nat → Int32} {ng : Nat} {gs : Nat → GS} {nt : Nat} {ts : Nat → TR} {lim : Int32} {rf sp : Int64} {rr : Nat} (h : CL Γ f x0 lp lg lt ca tr pl mf so sh sm np mon ng gs nt ts lim rf sp rr) (h34 : gC Γ 3 ≠ gC Γ 4) (hf : hm_kd kL Γ f f') : CL Γ f' x0 lp lg lt ca tr pl mf so sh sm np mon ng gs nt ts lim rf sp rr := by
  obtain ⟨h0, aP, cP, P, aG, cG, G, aT, cT, T, ⟨p1, p2, p3, p4⟩, ⟨g1, g2, g3, g4⟩, ⟨t1, t2, t3⟩, ap⟩ := h
  exact ⟨hf _ _ h0 rfl, aP, cP, P, aG, cG, G, aT, cT, T, ⟨p1.kpt h34 hf, p2, fun i hi => hf _ _ (p3 i hi) rfl, p4⟩, ⟨g1.kpt h34 hf, g2, fun i hi => hf _ _ (g3 i hi) rfl, g4⟩, ⟨t1.kpt h34 hf, t2, fun i hi => hf _ _ (t3 i hi) rfl⟩, ap⟩
theorem CD.kpt {Γ : Gm} {f f' : Hm} {ca tr pl rr : Nat} {E : Nat → EV} {cn us : Int32} (h : CD Γ f ca tr pl rr E cn us) (hf : hm_kd kD Γ f f') : CD Γ f' ca tr pl rr E cn us := by
  obtain ⟨sl, en, ca1, sl1, en1, E1, cn1, rm1, us1, u1, u2, u3, ca2, sl2, h1, h2, h3, h4, h5⟩ := h
  exact ⟨sl, en, ca1, sl1, en1, E1, cn1, rm1, us1, u1, u2, u3, ca2, sl2, h1.kpt hf, h2.kpt hf, hf _ _ h3 rfl, h4.kpt hf, h5⟩
theorem kC_L {k : Nat} (h : kL k = true) : kC k = true := by unfold kC; rw [h]; rfl
theorem kC_D {k : Nat} (h : kD k = true) : kC k = true := by unfold kC; rw [h]; exact Bool.or_true _
theorem CW.kpt {Γ : Gm} {f f' : Hm} {x0 : Nat} {mf : Nat → Int32} {E : Nat → EV} {cn us : Int32} {so sh sm : Int64} {np : Nat} {mon : Nat → Int32} {ng : Nat} {gs : Nat → GS} {nt : Nat} {ts : Nat → TR} {lim : Int32} {rf sp : Int64} {rr : Nat} (h : CW Γ f x0 mf E cn us so sh sm np mon ng gs nt ts lim rf sp rr) (h34 : gC Γ 3 ≠ gC Γ 4) (hf : hm_kd kC Γ f f') : CW Γ f' x0 mf E cn us so sh sm np mon ng gs nt ts lim rf sp rr := by
  obtain ⟨lp, lg, lt, ca, tr, pl, h1, h2⟩ := h
  exact ⟨lp, lg, lt, ca, tr, pl, h1.kpt h34 (hf.mono (fun _ => kC_L)), h2.kpt (hf.mono (fun _ => kC_D))⟩
/-- what both keep, after n calls -/
def INV (n : Nat) (K : Nat → EV) (kp : Nat) (ck msh msm mso : Int32) (mf : Nat → Int32) (E : Nat → EV) (cn us : Int32) (so sh sm : Int64) (np : Nat) (mon : Nat → Int32) (ng : Nat) (gs : Nat → GS) (nt : Nat) (ts : Nat → TR) (lim : Int32) (rf sp : Int64) (rr : Nat) : Prop :=
  (np ≤ 4 ∧ ng ≤ 8 ∧ nt ≤ 60 ∧ 1 ≤ rr ∧ rr ≤ 64 ∧ kp ≤ rr) ∧ (∀ i, i < ng → (gs i).1 < np ∧ wt (gs i).2.1 ≤ 8 + 4 * n ∧ (gs i).2.2.1 < 2 ^ 31) ∧ (∀ i, ng ≤ i → (gs i).2.2.2 = (0, 0, 0, 0, 0, false)) ∧ (∀ i, i < nt → wt (ts i).2.1 ≤ 4000 ∧ (ts i).2.2.1 < 2 ^ 31 ∧ (ts i).1 < 4) ∧ (mso = nI nt ∧ so = lN nt ∧ ∃ a b : Nat, a ≤ 600 * nt ∧ b ≤ 600 * nt ∧ msh = nI a ∧ sh = lN a ∧ msm = nI b ∧ sm = lN b) ∧ ((∃ σ, RelS σ 64 kp K E) ∧ (∃ c, ck = nI c ∧ us = nI c ∧ c ≤ 600 * n ∧ KInv kp K c) ∧ cn = nI kp ∧ (∀ j, j < 64 → eok (E j)) ∧ ∀ a, a < kp → mok (K a)) ∧ rf = sumV gs ng ∧ ∀ i, i < np → mon i = mf i - sumP gs i ng
def ix (v : Int32) : Nat := v.toNatClampNeg
theorem ix_nI {i : Nat} (h : i < 2 ^ 31) : ix (nI i) = i := nI_clamp h
/-- the games' bounds -/
def GOK (np ng : Nat) (gs : Nat → GS) : Prop := ∀ i, i < ng → (gs i).1 < np ∧ wt (gs i).2.1 ≤ 3900 ∧ (gs i).2.2.1 < 2 ^ 31
def TOK (nt : Nat) (ts : Nat → TR) : Prop := ∀ i, i < nt → wt (ts i).2.1 ≤ 4000 ∧ (ts i).2.2.1 < 2 ^ 31 ∧ (ts i).1 < 4
theorem bTF (b : Bool) : b = true ∨ b = false := by cases b <;> simp
/-- a class's call -/
def cP (k a : Int32) (Γ : Gm) (f : Hm) (N : Hm → Prop) : Option Value → Hm → Prop := fun v f' => k = 0 ∧ v = some (.int a) ∧ N f' ∧ hm_kd kM Γ f f'
def cX (cs : List (String × Int32)) (k : Int32) (Γ : Gm) (f : Hm) (O : Hm → Prop) : String → Hm → Prop := fun E f' => k ≠ 0 ∧ (E, k) ∈ cs ∧ O f' ∧ hm_kd kM Γ f f'
theorem gset_p {α : Type} (p : GS → α) {gs : Nat → GS} {i : Nat} {y : GS} (h : p y = p (gs i)) : (fun j => p (gs j)) = fun j => p (setG gs i y j) := by
  funext j
  unfold setG
  split
  · rename_i q; rw [q, h]
  · rfl
theorem mS_0 {m0 : Nat} {r : Nat → Nat} : mS m0 r m0 := Or.inl rfl
theorem mS_r {m0 : Nat} {r : Nat → Nat} {k : Nat} (h : k < 28) : mS m0 r (r k) := Or.inr ⟨k, h, rfl⟩
theorem mS_w {m0 : Nat} {r : Nat → Nat} {q : Nat} (h : wS m0 r q) : mS m0 r q := by
  rcases h with h | ⟨k, h1, h2, h3⟩
  · exact Or.inl h
  · exact Or.inr ⟨k, by omega, h3⟩
theorem mS_k {m0 : Nat} {r : Nat → Nat} {q : Nat} (h : kS m0 r q) : mS m0 r q := by
  rcases h with h | ⟨k, h1, h2, h3⟩
  · exact Or.inl h
  · exact Or.inr ⟨k, by omega, h3⟩

def pinK (K : Nat → EV) (o : Option Nat) (g : Nat) : Nat → EV := match o with
  | none => K
  | some a => setK K a (setP (K a) ((K a).2.2.2.2.2.2 ||| (1 <<< (nI g &&& 31))))
def setT (ts : Nat → TR) (i : Nat) (y : TR) : Nat → TR := fun j => if j = i then y else ts j
def gs0 : Nat → GS := fun _ => (0, fun _ => 0, 0, 0, 0, 0, 0, 0, false)
def ts0 : Nat → TR := fun _ => (0, fun _ => 0, 0, 0)
