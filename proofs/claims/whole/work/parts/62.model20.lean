/-! the model: what is only looked up, over its world -/
theorem bI_ne (b : Bool) : bI (decide (bI b ≠ 0)) = bI b := by cases b <;> rfl
theorem inB_no {v : Int32} {n : Nat} (hn : n < 2 ^ 31) (h : ∀ i, i < n → v ≠ nI i) : inB v (nI n) = false := by
  cases hq : inB v (nI n) with
  | false => rfl
  | true => obtain ⟨i, hi, e⟩ := (inB_iff hn).mp hq; exact absurd e (h i hi)
theorem inB_yes {i n : Nat} (hn : n < 2 ^ 31) (hi : i < n) : inB (nI i) (nI n) = true := (inB_iff hn).mpr ⟨i, hi, rfl⟩
theorem w_X8_score (Γ : Gm) (l : Launch) (m0 : Nat) (r : Nat → Nat) (th : Int32) (K : Nat → EV) (kp : Nat) (ck msh msm mso : Int32) (np : Nat) (mon : Nat → Int32) (ng : Nat) (gs : Nat → GS) (nt : Nat) (ts : Nat → TR) (lim : Int32) (rf sp : Int64) (rr : Nat) (v0 : Int32) (f : Hm) (hM : MW Γ f m0 r th K kp ck msh msm mso np mon ng gs nt ts lim rf sp rr) (hnp : np ≤ 4) (hng : ng ≤ 8) (hnt : nt ≤ 60) (hr1 : 1 ≤ rr) (hrr : rr ≤ 64) (hkr : kp ≤ rr) (hrI : rI r) (hgs : GOK np ng gs) : Ct Γ l yX8_score cX8_score 2 (some .int) 3 0 0 [.ref m0, .int v0] f (mP (if inB v0 (nI ng) then 0 else 1) ((gs (ix v0)).2.2.2.1) (mS m0 r) f (fun f' => MW Γ f' m0 r 0 K kp ck msh msm mso np mon ng gs nt ts lim rf sp rr) (fun f' => MW Γ f' m0 r ((if inB v0 (nI ng) then 0 else 1)) K kp ck msh msm mso np mon ng gs nt ts lim rf sp rr)) := by
  obtain ⟨⟨dz, gd, hih, mih, fh, hm0⟩, hR⟩ := id hM
  obtain ⟨hKA, hPA, h0, ⟨hg1, hg2, hg3, hg4, hg5, hg6, hg7, hg8, hg9⟩, ht10, ht11, ht12, ht13⟩ := id hR
  refine Ct.imp (c_X8_score Γ l m0 r th (nI np) (nI nt) (nI kp) (nI rr) ck lim dz gd hih mih fh msh msm mso sp rf ng (fun i => (gs i).2.2.2.1) v0 f hm0 hng hg4) ?_
  rintro v f' ⟨rfl, hv⟩
  refine ⟨?_, hm_k.rf.up mS_0⟩
  rcases hv with ⟨i, hi, rfl, rfl⟩ | ⟨hno, rfl⟩
  · have hb := inB_yes (n := ng) (by omega) hi
    refine Or.inl ⟨by rw [hb]; rfl, by rw [ix_nI (by omega)], ?_⟩
    rw [hb]
    exact MW.mk hm_us (hR.up hm0 _)
  · have hb := inB_no (by omega) hno
    exact Or.inr ⟨by rw [hb]; exact (show (1 : Int32) ≠ 0 by decide), ⟨_, rfl⟩, MW.mk hm_us (hR.up hm0 _)⟩
theorem w_X8_pushes (Γ : Gm) (l : Launch) (m0 : Nat) (r : Nat → Nat) (th : Int32) (K : Nat → EV) (kp : Nat) (ck msh msm mso : Int32) (np : Nat) (mon : Nat → Int32) (ng : Nat) (gs : Nat → GS) (nt : Nat) (ts : Nat → TR) (lim : Int32) (rf sp : Int64) (rr : Nat) (v0 : Int32) (f : Hm) (hM : MW Γ f m0 r th K kp ck msh msm mso np mon ng gs nt ts lim rf sp rr) (hnp : np ≤ 4) (hng : ng ≤ 8) (hnt : nt ≤ 60) (hr1 : 1 ≤ rr) (hrr : rr ≤ 64) (hkr : kp ≤ rr) (hrI : rI r) (hgs : GOK np ng gs) : Ct Γ l yX8_pushes cX8_pushes 2 (some .int) 3 0 0 [.ref m0, .int v0] f (mP (if inB v0 (nI ng) then 0 else 1) ((gs (ix v0)).2.2.2.2.1) (mS m0 r) f (fun f' => MW Γ f' m0 r 0 K kp ck msh msm mso np mon ng gs nt ts lim rf sp rr) (fun f' => MW Γ f' m0 r ((if inB v0 (nI ng) then 0 else 1)) K kp ck msh msm mso np mon ng gs nt ts lim rf sp rr)) := by
  obtain ⟨⟨dz, gd, hih, mih, fh, hm0⟩, hR⟩ := id hM
  obtain ⟨hKA, hPA, h0, ⟨hg1, hg2, hg3, hg4, hg5, hg6, hg7, hg8, hg9⟩, ht10, ht11, ht12, ht13⟩ := id hR
  refine Ct.imp (c_X8_pushes Γ l m0 r th (nI np) (nI nt) (nI kp) (nI rr) ck lim dz gd hih mih fh msh msm mso sp rf ng (fun i => (gs i).2.2.2.2.1) v0 f hm0 hng hg5) ?_
  rintro v f' ⟨rfl, hv⟩
  refine ⟨?_, hm_k.rf.up mS_0⟩
  rcases hv with ⟨i, hi, rfl, rfl⟩ | ⟨hno, rfl⟩
  · have hb := inB_yes (n := ng) (by omega) hi
    refine Or.inl ⟨by rw [hb]; rfl, by rw [ix_nI (by omega)], ?_⟩
    rw [hb]
    exact MW.mk hm_us (hR.up hm0 _)
  · have hb := inB_no (by omega) hno
    exact Or.inr ⟨by rw [hb]; exact (show (1 : Int32) ≠ 0 by decide), ⟨_, rfl⟩, MW.mk hm_us (hR.up hm0 _)⟩
theorem w_X8_follows (Γ : Gm) (l : Launch) (m0 : Nat) (r : Nat → Nat) (th : Int32) (K : Nat → EV) (kp : Nat) (ck msh msm mso : Int32) (np : Nat) (mon : Nat → Int32) (ng : Nat) (gs : Nat → GS) (nt : Nat) (ts : Nat → TR) (lim : Int32) (rf sp : Int64) (rr : Nat) (v0 : Int32) (f : Hm) (hM : MW Γ f m0 r th K kp ck msh msm mso np mon ng gs nt ts lim rf sp rr) (hnp : np ≤ 4) (hng : ng ≤ 8) (hnt : nt ≤ 60) (hr1 : 1 ≤ rr) (hrr : rr ≤ 64) (hkr : kp ≤ rr) (hrI : rI r) (hgs : GOK np ng gs) : Ct Γ l yX8_follows cX8_follows 2 (some .int) 3 0 0 [.ref m0, .int v0] f (mP (if inB v0 (nI ng) then 0 else 1) ((gs (ix v0)).2.2.2.2.2.2.1) (mS m0 r) f (fun f' => MW Γ f' m0 r 0 K kp ck msh msm mso np mon ng gs nt ts lim rf sp rr) (fun f' => MW Γ f' m0 r ((if inB v0 (nI ng) then 0 else 1)) K kp ck msh msm mso np mon ng gs nt ts lim rf sp rr)) := by
  obtain ⟨⟨dz, gd, hih, mih, fh, hm0⟩, hR⟩ := id hM
  obtain ⟨hKA, hPA, h0, ⟨hg1, hg2, hg3, hg4, hg5, hg6, hg7, hg8, hg9⟩, ht10, ht11, ht12, ht13⟩ := id hR
  refine Ct.imp (c_X8_follows Γ l m0 r th (nI np) (nI nt) (nI kp) (nI rr) ck lim dz gd hih mih fh msh msm mso sp rf ng (fun i => (gs i).2.2.2.2.2.2.1) v0 f hm0 hng hg7) ?_
  rintro v f' ⟨rfl, hv⟩
  refine ⟨?_, hm_k.rf.up mS_0⟩
  rcases hv with ⟨i, hi, rfl, rfl⟩ | ⟨hno, rfl⟩
  · have hb := inB_yes (n := ng) (by omega) hi
    refine Or.inl ⟨by rw [hb]; rfl, by rw [ix_nI (by omega)], ?_⟩
    rw [hb]
    exact MW.mk hm_us (hR.up hm0 _)
  · have hb := inB_no (by omega) hno
    exact Or.inr ⟨by rw [hb]; exact (show (1 : Int32) ≠ 0 by decide), ⟨_, rfl⟩, MW.mk hm_us (hR.up hm0 _)⟩
theorem w_X8_isVoid (Γ : Gm) (l : Launch) (m0 : Nat) (r : Nat → Nat) (th : Int32) (K : Nat → EV) (kp : Nat) (ck msh msm mso : Int32) (np : Nat) (mon : Nat → Int32) (ng : Nat) (gs : Nat → GS) (nt : Nat) (ts : Nat → TR) (lim : Int32) (rf sp : Int64) (rr : Nat) (v0 : Int32) (f : Hm) (hM : MW Γ f m0 r th K kp ck msh msm mso np mon ng gs nt ts lim rf sp rr) (hnp : np ≤ 4) (hng : ng ≤ 8) (hnt : nt ≤ 60) (hr1 : 1 ≤ rr) (hrr : rr ≤ 64) (hkr : kp ≤ rr) (hrI : rI r) (hgs : GOK np ng gs) : Ct Γ l yX8_isVoid cX8_isVoid 2 (some .boolean) 3 0 0 [.ref m0, .int v0] f (mP (if inB v0 (nI ng) then 0 else 1) (bI (gs (ix v0)).2.2.2.2.2.2.2.2) (mS m0 r) f (fun f' => MW Γ f' m0 r 0 K kp ck msh msm mso np mon ng gs nt ts lim rf sp rr) (fun f' => MW Γ f' m0 r ((if inB v0 (nI ng) then 0 else 1)) K kp ck msh msm mso np mon ng gs nt ts lim rf sp rr)) := by
  obtain ⟨⟨dz, gd, hih, mih, fh, hm0⟩, hR⟩ := id hM
  obtain ⟨hKA, hPA, h0, ⟨hg1, hg2, hg3, hg4, hg5, hg6, hg7, hg8, hg9⟩, ht10, ht11, ht12, ht13⟩ := id hR
  refine Ct.imp (c_X8_isVoid Γ l m0 r th (nI np) (nI nt) (nI kp) (nI rr) ck lim dz gd hih mih fh msh msm mso sp rf ng (fun i => bI (gs i).2.2.2.2.2.2.2.2) v0 f hm0 hng hg9) ?_
  rintro v f' ⟨rfl, hv⟩
  refine ⟨?_, hm_k.rf.up mS_0⟩
  rcases hv with ⟨i, hi, rfl, rfl⟩ | ⟨hno, rfl⟩
  · have hb := inB_yes (n := ng) (by omega) hi
    refine Or.inl ⟨by rw [hb]; rfl, by rw [ix_nI (by omega), bI_ne], ?_⟩
    rw [hb]
    exact MW.mk hm_us (hR.up hm0 _)
  · have hb := inB_no (by omega) hno
    exact Or.inr ⟨by rw [hb]; exact (show (1 : Int32) ≠ 0 by decide), ⟨_, rfl⟩, MW.mk hm_us (hR.up hm0 _)⟩
theorem w_X8_playerOf (Γ : Gm) (l : Launch) (m0 : Nat) (r : Nat → Nat) (th : Int32) (K : Nat → EV) (kp : Nat) (ck msh msm mso : Int32) (np : Nat) (mon : Nat → Int32) (ng : Nat) (gs : Nat → GS) (nt : Nat) (ts : Nat → TR) (lim : Int32) (rf sp : Int64) (rr : Nat) (v0 : Int32) (f : Hm) (hM : MW Γ f m0 r th K kp ck msh msm mso np mon ng gs nt ts lim rf sp rr) (hnp : np ≤ 4) (hng : ng ≤ 8) (hnt : nt ≤ 60) (hr1 : 1 ≤ rr) (hrr : rr ≤ 64) (hkr : kp ≤ rr) (hrI : rI r) (hgs : GOK np ng gs) : Ct Γ l yX8_playerOf cX8_playerOf 2 (some .int) 3 0 0 [.ref m0, .int v0] f (mP (if inB v0 (nI nt) then 0 else 1) (nI (ts (ix v0)).1) (mS m0 r) f (fun f' => MW Γ f' m0 r 0 K kp ck msh msm mso np mon ng gs nt ts lim rf sp rr) (fun f' => MW Γ f' m0 r ((if inB v0 (nI nt) then 0 else 1)) K kp ck msh msm mso np mon ng gs nt ts lim rf sp rr)) := by
  obtain ⟨⟨dz, gd, hih, mih, fh, hm0⟩, hR⟩ := id hM
  obtain ⟨hKA, hPA, h0, ⟨hg1, hg2, hg3, hg4, hg5, hg6, hg7, hg8, hg9⟩, ht10, ht11, ht12, ht13⟩ := id hR
  refine Ct.imp (c_X8_playerOf Γ l m0 r th (nI np) (nI ng) (nI kp) (nI rr) ck lim dz gd hih mih fh msh msm mso sp rf nt (fun i => nI (ts i).1) v0 f hm0 hnt ht12) ?_
  rintro v f' ⟨rfl, hv⟩
  refine ⟨?_, hm_k.rf.up mS_0⟩
  rcases hv with ⟨i, hi, rfl, rfl⟩ | ⟨hno, rfl⟩
  · have hb := inB_yes (n := nt) (by omega) hi
    refine Or.inl ⟨by rw [hb]; rfl, by rw [ix_nI (by omega)], ?_⟩
    rw [hb]
    exact MW.mk hm_us (hR.up hm0 _)
  · have hb := inB_no (by omega) hno
    exact Or.inr ⟨by rw [hb]; exact (show (1 : Int32) ≠ 0 by decide), ⟨_, rfl⟩, MW.mk hm_us (hR.up hm0 _)⟩
theorem w_X8_pushOf (Γ : Gm) (l : Launch) (m0 : Nat) (r : Nat → Nat) (th : Int32) (K : Nat → EV) (kp : Nat) (ck msh msm mso : Int32) (np : Nat) (mon : Nat → Int32) (ng : Nat) (gs : Nat → GS) (nt : Nat) (ts : Nat → TR) (lim : Int32) (rf sp : Int64) (rr : Nat) (v0 : Int32) (f : Hm) (hM : MW Γ f m0 r th K kp ck msh msm mso np mon ng gs nt ts lim rf sp rr) (hnp : np ≤ 4) (hng : ng ≤ 8) (hnt : nt ≤ 60) (hr1 : 1 ≤ rr) (hrr : rr ≤ 64) (hkr : kp ≤ rr) (hrI : rI r) (hgs : GOK np ng gs) : Ct Γ l yX8_pushOf cX8_pushOf 2 (some .int) 3 0 0 [.ref m0, .int v0] f (mP (if inB v0 (nI nt) then 0 else 1) ((ts (ix v0)).2.2.2) (mS m0 r) f (fun f' => MW Γ f' m0 r 0 K kp ck msh msm mso np mon ng gs nt ts lim rf sp rr) (fun f' => MW Γ f' m0 r ((if inB v0 (nI nt) then 0 else 1)) K kp ck msh msm mso np mon ng gs nt ts lim rf sp rr)) := by
  obtain ⟨⟨dz, gd, hih, mih, fh, hm0⟩, hR⟩ := id hM
  obtain ⟨hKA, hPA, h0, ⟨hg1, hg2, hg3, hg4, hg5, hg6, hg7, hg8, hg9⟩, ht10, ht11, ht12, ht13⟩ := id hR
  refine Ct.imp (c_X8_pushOf Γ l m0 r th (nI np) (nI ng) (nI kp) (nI rr) ck lim dz gd hih mih fh msh msm mso sp rf nt (fun i => (ts i).2.2.2) v0 f hm0 hnt ht13) ?_
  rintro v f' ⟨rfl, hv⟩
  refine ⟨?_, hm_k.rf.up mS_0⟩
  rcases hv with ⟨i, hi, rfl, rfl⟩ | ⟨hno, rfl⟩
  · have hb := inB_yes (n := nt) (by omega) hi
    refine Or.inl ⟨by rw [hb]; rfl, by rw [ix_nI (by omega)], ?_⟩
    rw [hb]
    exact MW.mk hm_us (hR.up hm0 _)
  · have hb := inB_no (by omega) hno
    exact Or.inr ⟨by rw [hb]; exact (show (1 : Int32) ≠ 0 by decide), ⟨_, rfl⟩, MW.mk hm_us (hR.up hm0 _)⟩
theorem w_X8_money (Γ : Gm) (l : Launch) (m0 : Nat) (r : Nat → Nat) (th : Int32) (K : Nat → EV) (kp : Nat) (ck msh msm mso : Int32) (np : Nat) (mon : Nat → Int32) (ng : Nat) (gs : Nat → GS) (nt : Nat) (ts : Nat → TR) (lim : Int32) (rf sp : Int64) (rr : Nat) (v0 : Int32) (f : Hm) (hM : MW Γ f m0 r th K kp ck msh msm mso np mon ng gs nt ts lim rf sp rr) (hnp : np ≤ 4) (hng : ng ≤ 8) (hnt : nt ≤ 60) (hr1 : 1 ≤ rr) (hrr : rr ≤ 64) (hkr : kp ≤ rr) (hrI : rI r) (hgs : GOK np ng gs) : Ct Γ l yX8_money cX8_money 2 (some .int) 2 0 0 [.ref m0, .int v0] f (mP (if inB v0 (nI np) then 0 else 1) (mon (ix v0)) (mS m0 r) f (fun f' => MW Γ f' m0 r 0 K kp ck msh msm mso np mon ng gs nt ts lim rf sp rr) (fun f' => MW Γ f' m0 r ((if inB v0 (nI np) then 0 else 1)) K kp ck msh msm mso np mon ng gs nt ts lim rf sp rr)) := by
  obtain ⟨⟨dz, gd, hih, mih, fh, hm0⟩, hR⟩ := id hM
  obtain ⟨hKA, hPA, h0, ⟨hg1, hg2, hg3, hg4, hg5, hg6, hg7, hg8, hg9⟩, ht10, ht11, ht12, ht13⟩ := id hR
  refine Ct.imp (c_X8_money Γ l m0 r th (nI ng) (nI nt) (nI kp) (nI rr) ck lim dz gd hih mih fh msh msm mso sp rf np mon v0 f hm0 hnp h0) ?_
  rintro v f' ⟨rfl, hv⟩
  refine ⟨?_, hm_k.rf.up mS_0⟩
  rcases hv with ⟨i, hi, rfl, rfl⟩ | ⟨hno, rfl⟩
  · have hb := inB_yes (n := np) (by omega) hi
    refine Or.inl ⟨by rw [hb]; rfl, by rw [ix_nI (by omega)], ?_⟩
    rw [hb]
    exact MW.mk hm_us (hR.up hm0 _)
  · have hb := inB_no (by omega) hno
    exact Or.inr ⟨by rw [hb]; exact (show (1 : Int32) ≠ 0 by decide), ⟨_, rfl⟩, MW.mk hm_us (hR.up hm0 _)⟩
theorem w_X8_setLimit (Γ : Gm) (l : Launch) (m0 : Nat) (r : Nat → Nat) (th : Int32) (K : Nat → EV) (kp : Nat) (ck msh msm mso : Int32) (np : Nat) (mon : Nat → Int32) (ng : Nat) (gs : Nat → GS) (nt : Nat) (ts : Nat → TR) (lim : Int32) (rf sp : Int64) (rr : Nat) (v0 : Int32) (f : Hm) (hM : MW Γ f m0 r th K kp ck msh msm mso np mon ng gs nt ts lim rf sp rr) (hnp : np ≤ 4) (hng : ng ≤ 8) (hnt : nt ≤ 60) (hr1 : 1 ≤ rr) (hrr : rr ≤ 64) (hkr : kp ≤ rr) (hrI : rI r) (hgs : GOK np ng gs) : Ct Γ l yX8_setLimit cX8_setLimit 3 (some .int) 2 0 0 [.ref m0, .int v0] f (mP (if inR v0 1 9 then 0 else 1) (lim) (mS m0 r) f (fun f' => MW Γ f' m0 r 0 K kp ck msh msm mso np mon ng gs nt ts v0 rf sp rr) (fun f' => MW Γ f' m0 r ((if inR v0 1 9 then 0 else 1)) K kp ck msh msm mso np mon ng gs nt ts lim rf sp rr)) := by
  obtain ⟨⟨dz, gd, hih, mih, fh, hm0⟩, hR⟩ := id hM
  refine Ct.imp (c_X8_setLimit Γ l m0 r th (nI np) (nI ng) (nI nt) (nI kp) (nI rr) ck lim dz gd hih mih fh msh msm mso sp rf v0 f hm0) ?_
  rintro v f' (⟨hb, rfl, rfl⟩ | ⟨hb, rfl, rfl⟩)
  · exact ⟨Or.inl ⟨by rw [hb]; rfl, rfl, MW.mk hm_us (hR.up hm0 _)⟩, hm_k.rf.up mS_0⟩
  · exact ⟨Or.inr ⟨by rw [hb]; exact (show (1 : Int32) ≠ 0 by decide), ⟨_, rfl⟩, by rw [hb]; exact MW.mk hm_us (hR.up hm0 _)⟩, hm_k.rf.up mS_0⟩
