/-! the model: priceOf -/
section CT
variable {p : Program} {l : Launch} {e : Env} {R : Room} {s : State} {m : MethodId} {args : Array Value} {below : List Frame} {meth : Method} {c : Code} {H : Heap} {locs : List Loc} {cells slots : Nat} {Q : State → Prop}
variable {cc : ByteArray} {pc nL : Nat} {ls : Array Slot} {rest : List Value} {Γ : Gm} {f : Hm} {a : Nat}
theorem hm_castI (hx : p.tables.exec = Jvm.exec) (hb : c.code = cc) (hts : ∀ w ∈ lwG, w.before args s = true) (hown : s.vm.findClass RX8 = some m.cls) (hK : KK Γ s) (hH : hm_H Γ f H) {n : Nat} {g : Nat → Int32} (ha : f a = some (eI Γ n g)) (hdg : decode cc pc = .ok (.checkcast 205, 3))
    (k : W p l e R s m args below meth c H locs cells slots Q (F0 m (pc + 3) ls (.ref a :: rest))) : W p l e R s m args below meth c H locs cells slots Q (F0 m pc ls (.ref a :: rest)) :=
  va_castA hx hb hown (hts _ q5_212) (hm_one hH ha (fun z => by injection z with z; have z2 := congrArg (fun x : ClassId × vp_A => x.2.2) z; cases z2)) 0 rfl (va_nm_int (hK.1.2 0 (gC Γ 0, .int) rfl).2) hdg k
theorem hm_castJ (hx : p.tables.exec = Jvm.exec) (hb : c.code = cc) (hts : ∀ w ∈ lwG, w.before args s = true) (hown : s.vm.findClass RX8 = some m.cls) (hK : KK Γ s) (hH : hm_H Γ f H) {n : Nat} {g : Nat → Int64} (ha : f a = some (eJ Γ n g)) (hdg : decode cc pc = .ok (.checkcast 200, 3))
    (k : W p l e R s m args below meth c H locs cells slots Q (F0 m (pc + 3) ls (.ref a :: rest))) : W p l e R s m args below meth c H locs cells slots Q (F0 m pc ls (.ref a :: rest)) :=
  va_castA hx hb hown (hts _ q5_207) (hm_one hH ha (fun z => by injection z with z; have z2 := congrArg (fun x : ClassId × vp_A => x.2.2) z; cases z2)) 0 rfl (va_nm_long (hK.1.2 1 (gC Γ 1, .long) rfl).2) hdg k
theorem hm_gbI (hH : hm_H Γ f H) {n : Nat} {g : Nat → Int32} (ha : f a = some (eI Γ n g)) : gB Γ ≤ a := by
  rcases (hH.1 a _ ha).2 with q | q
  · rw [q, hH.2.1] at ha
    injection ha with z
    injection z with z
    have z2 := congrArg (fun x : ClassId × vp_A => x.2.2) z
    cases z2
  · exact q
theorem hm_gbJ (hH : hm_H Γ f H) {n : Nat} {g : Nat → Int64} (ha : f a = some (eJ Γ n g)) : gB Γ ≤ a := by
  rcases (hH.1 a _ ha).2 with q | q
  · rw [q, hH.2.1] at ha
    injection ha with z
    injection z with z
    have z2 := congrArg (fun x : ClassId × vp_A => x.2.2) z
    cases z2
  · exact q
end CT
theorem notw {Γ : Gm} {f : Hm} {m0 q : Nat} {r : Nat → Nat} {x : va_E} {K : Nat → EV} {pb : Nat → Int64} {pz pd pn pe ph pg : Nat → Int32} (hm : f m0 = some x) (hKA : KA Γ f r K) (hPA : PA Γ f r pb pz pd pn pe ph pg) (hq : f q = none) : ¬ wS m0 r q := by
  obtain ⟨k0, k1, k2, k3, k4, k5, k6⟩ := hKA
  obtain ⟨p0, p1, p2, p3, p4, p5, p6⟩ := hPA
  rintro (z | ⟨k, h1, h2, z⟩)
  · exact hm_nn hm hq z.symm
  · rcases (by omega : k = 14 ∨ k = 15 ∨ k = 16 ∨ k = 17 ∨ k = 18 ∨ k = 19 ∨ k = 20 ∨ k = 21 ∨ k = 22 ∨ k = 23 ∨ k = 24 ∨ k = 25 ∨ k = 26 ∨ k = 27) with e | e | e | e | e | e | e | e | e | e | e | e | e | e <;> subst e
    · exact hm_nn k0 hq z.symm
    · exact hm_nn k1 hq z.symm
    · exact hm_nn k2 hq z.symm
    · exact hm_nn k3 hq z.symm
    · exact hm_nn k4 hq z.symm
    · exact hm_nn k5 hq z.symm
    · exact hm_nn k6 hq z.symm
    · exact hm_nn p0 hq z.symm
    · exact hm_nn p1 hq z.symm
    · exact hm_nn p2 hq z.symm
    · exact hm_nn p3 hq z.symm
    · exact hm_nn p4 hq z.symm
    · exact hm_nn p5 hq z.symm
    · exact hm_nn p6 hq z.symm
theorem mix_fun {α : Type} (p : EV → α) (A B : Nat → EV) (i : Nat) {g : Nat → α} (hg : g = fun j => p (mixE A B i j)) : (fun j => if j = i then p (A i) else g j) = fun j => p (mixE A B (i + 1) j) := by
  funext j
  rw [hg, ← mixE_s]
  unfold updE
  dsimp only
  split <;> rfl
set_option maxHeartbeats 4000000 in
set_option maxRecDepth 100000 in
theorem c_X8_priceOf (Γ : Gm) (l : Launch) (m0 : Nat) (r : Nat → Nat) (mth mpl mga mtr mli msh msm mso : Int32) (msp mrf : Int64) (rr : Nat) (S : MT) (dz gd fh : Int32) (pb : Nat → Int64) (pz pd pn pe ph pg : Nat → Int32) (t : Nat → Nat) (z d gi : Nat) (bd : Nat → Int64) (zs : Nat → Int32) (f : Hm) (hHd : HD Γ f m0 r mth mpl mga mtr mli msh msm mso msp mrf rr S dz gd fh pb pz pd pn pe ph pg) (hrI : rI r) (hrr : rr ≤ 64) (hr1 : 1 ≤ rr) (hmo : mokA rr S) (hd4 : d ≤ 4) (hw : wt t + 4 * d ≤ 4000) (hz : z < 2 ^ 31) (hgi : gi < 8) (hB : f (r 1) = some (eJ Γ 8 bd)) (hZ : f (r 2) = some (eI Γ 8 zs)) (hbd : bd gi = b4 t) (hzs : zs gi = nI z) : Ct Γ l yX8_priceOf cX8_priceOf 14 (some .int) 5 7 448 [.ref m0, .int (nI gi), .int (nI d)] f (fun v f' => v = some (.int (mxI (trM true rr d t z (S.1, S.2.1, S.2.2.1, S.2.2.2.1, 0)).2.2.2.2 1)) ∧ (∃ (dz2 gd2 : Int32) (pb2 : Nat → Int64) (pz2 pd2 pn2 pe2 ph2 pg2 : Nat → Int32), HD Γ f' m0 r mth mpl mga mtr mli msh msm mso msp mrf rr ((mixE S.1 (trM true rr d t z (S.1, S.2.1, S.2.2.1, S.2.2.2.1, 0)).1 64, S.2.1, S.2.2.1, (trM true rr d t z (S.1, S.2.1, S.2.2.1, S.2.2.2.1, 0)).2.2.2.1, (trM true rr d t z (S.1, S.2.1, S.2.2.1, S.2.2.2.1, 0)).2.2.2.2)) dz2 gd2 ((wp d t z).2) pb2 pz2 pd2 pn2 pe2 ph2 pg2) ∧ hm_k (wS m0 r) f f') := by
  refine Ct_of (by decide +kernel) (Nat.le_of_ble_eq_true rfl) ?_
  intro p e s m args below meth c hx hb hr hml hown hin hlocks hts hH hO hK ls hl
  have hl : lv_has ls 14 [(0, .ref m0), (1, .int (nI gi)), (2, .int (nI d))] := hl
  have hS : va_S (gA Γ) s.heap s.heap [] := va_S.rf
  obtain ⟨hm1, hKA1, hPA1⟩ := id hHd
  obtain ⟨hk0, hk1, hk2, hk3, hk4, hk5, hk6⟩ := id hKA1
  obtain ⟨hp0, hp1, hp2, hp3, hp4, hp5, hp6⟩ := id hPA1
  refine lv_aload_n hx hb dX8_priceOf_0 rfl (lv_at hl 0 rfl) ?_
  refine gf_X8_54 hx hb hts hown hK hH hm1 rfl dX8_priceOf_1 ?_
  refine hm_cloneJ (rest := []) hx hb hml hl.1 hown hts hK hO hS hH hk0 (hm_gbJ hH hk0) (Nat.le_of_ble_eq_true rfl) (Nat.le_of_ble_eq_true rfl) (Nat.le_of_ble_eq_true rfl) (Nat.le_of_ble_eq_true rfl) dX8_priceOf_4 (fun qa0 H hH hn_qa0 hb_qa0 hS => ?_)
  have hw_qa0 : ¬ wS m0 r qa0 := notw hm1 ⟨hk0, hk1, hk2, hk3, hk4, hk5, hk6⟩ ⟨hp0, hp1, hp2, hp3, hp4, hp5, hp6⟩ hn_qa0
  have hq0_qa0 : f qa0 = none := hn_qa0
  obtain ⟨f1, ef1⟩ : ∃ zz_, zz_ = hm_up f qa0 (eJ Γ 64 (fun j => (S.1 j).1)) := ⟨_, rfl⟩
  have hH : hm_H Γ f1 H := by rw [ef1]; exact hH
  have h2 : f1 qa0 = some (eJ Γ 64 (fun j => (S.1 j).1)) := by rw [ef1]; exact hm_us
  have h3 : f1 ((r 14)) = some (eJ Γ 64 (fun j => (S.1 j).1)) := by rw [ef1]; exact (hm_un (hm_nn hk0 hn_qa0)).trans hk0
  have h4 : f1 ((r 15)) = some (eI Γ 64 (fun j => (S.1 j).2.1)) := by rw [ef1]; exact (hm_un (hm_nn hk1 hn_qa0)).trans hk1
  have h5 : f1 ((r 16)) = some (eI Γ 64 (fun j => (S.1 j).2.2.1)) := by rw [ef1]; exact (hm_un (hm_nn hk2 hn_qa0)).trans hk2
  have h6 : f1 ((r 17)) = some (eI Γ 64 (fun j => (S.1 j).2.2.2.1)) := by rw [ef1]; exact (hm_un (hm_nn hk3 hn_qa0)).trans hk3
  have h7 : f1 ((r 18)) = some (eI Γ 64 (fun j => (S.1 j).2.2.2.2.1)) := by rw [ef1]; exact (hm_un (hm_nn hk4 hn_qa0)).trans hk4
  have h8 : f1 ((r 19)) = some (eI Γ 64 (fun j => (S.1 j).2.2.2.2.2.1)) := by rw [ef1]; exact (hm_un (hm_nn hk5 hn_qa0)).trans hk5
  have h9 : f1 ((r 20)) = some (eI Γ 64 (fun j => (S.1 j).2.2.2.2.2.2)) := by rw [ef1]; exact (hm_un (hm_nn hk6 hn_qa0)).trans hk6
  have h10 : f1 m0 = some (eM r mth mpl mga mtr (nI S.2.1) (nI rr) S.2.2.1 mli dz gd S.2.2.2.1 S.2.2.2.2 fh msh msm mso msp mrf) := by rw [ef1]; exact (hm_un (hm_nn hm1 hn_qa0)).trans hm1
  have h11 : f1 ((r 21)) = some (eJ Γ 6 pb) := by rw [ef1]; exact (hm_un (hm_nn hp0 hn_qa0)).trans hp0
  have h12 : f1 ((r 22)) = some (eI Γ 6 pz) := by rw [ef1]; exact (hm_un (hm_nn hp1 hn_qa0)).trans hp1
  have h13 : f1 ((r 23)) = some (eI Γ 6 pd) := by rw [ef1]; exact (hm_un (hm_nn hp2 hn_qa0)).trans hp2
  have h14 : f1 ((r 24)) = some (eI Γ 6 pn) := by rw [ef1]; exact (hm_un (hm_nn hp3 hn_qa0)).trans hp3
  have h15 : f1 ((r 25)) = some (eI Γ 6 pe) := by rw [ef1]; exact (hm_un (hm_nn hp4 hn_qa0)).trans hp4
  have h16 : f1 ((r 26)) = some (eI Γ 6 ph) := by rw [ef1]; exact (hm_un (hm_nn hp5 hn_qa0)).trans hp5
  have h17 : f1 ((r 27)) = some (eI Γ 6 pg) := by rw [ef1]; exact (hm_un (hm_nn hp6 hn_qa0)).trans hp6
  have h18 : f1 ((r 1)) = some (eJ Γ 8 bd) := by rw [ef1]; exact (hm_un (hm_nn hB hn_qa0)).trans hB
  have h19 : f1 ((r 2)) = some (eI Γ 8 zs) := by rw [ef1]; exact (hm_un (hm_nn hZ hn_qa0)).trans hZ
  have hg_qa0 : hm_k (wS m0 r) f f1 := by rw [ef1]; exact (hm_k.rf (S := wS m0 r) (f := f)).upN ((hq0_qa0))
  refine hm_castJ hx hb hts hown hK hH h2 dX8_priceOf_7 ?_
  refine lv_astore_n (lv' := [(3, .ref qa0), (0, .ref m0), (1, .int (nI gi)), (2, .int (nI d))]) hx hb dX8_priceOf_10 rfl hl (by decide) rfl (fun ls hl => ?_)
  refine lv_aload_n hx hb dX8_priceOf_11 rfl (lv_at hl 1 rfl) ?_
  refine gf_X8_57 hx hb hts hown hK hH h10 rfl dX8_priceOf_12 ?_
  refine hm_cloneI (rest := []) hx hb hml hl.1 hown hts hK hO hS hH h4 (hm_gbI hH h4) (Nat.le_of_ble_eq_true rfl) (Nat.le_of_ble_eq_true rfl) (Nat.le_of_ble_eq_true rfl) (Nat.le_of_ble_eq_true rfl) dX8_priceOf_15 (fun qa1 H hH hn_qa1 hb_qa1 hS => ?_)
  have hw_qa1 : ¬ wS m0 r qa1 := notw h10 ⟨h3, h4, h5, h6, h7, h8, h9⟩ ⟨h11, h12, h13, h14, h15, h16, h17⟩ hn_qa1
  have hq0_qa1 : f qa1 = none := by cases hz9 : f qa1 with | none => rfl | some e9 => exact absurd (hg_qa0 _ _ hw_qa1 hz9) (by rw [hn_qa1]; exact fun z => by cases z)
  obtain ⟨f20, ef20⟩ : ∃ zz_, zz_ = hm_up f1 qa1 (eI Γ 64 (fun j => (S.1 j).2.1)) := ⟨_, rfl⟩
  have hH : hm_H Γ f20 H := by rw [ef20]; exact hH
  have h21 : f20 qa1 = some (eI Γ 64 (fun j => (S.1 j).2.1)) := by rw [ef20]; exact hm_us
  have h22 : f20 ((r 14)) = some (eJ Γ 64 (fun j => (S.1 j).1)) := by rw [ef20]; exact (hm_un (hm_nn h3 hn_qa1)).trans h3
  have h23 : f20 ((r 15)) = some (eI Γ 64 (fun j => (S.1 j).2.1)) := by rw [ef20]; exact (hm_un (hm_nn h4 hn_qa1)).trans h4
  have h24 : f20 ((r 16)) = some (eI Γ 64 (fun j => (S.1 j).2.2.1)) := by rw [ef20]; exact (hm_un (hm_nn h5 hn_qa1)).trans h5
  have h25 : f20 ((r 17)) = some (eI Γ 64 (fun j => (S.1 j).2.2.2.1)) := by rw [ef20]; exact (hm_un (hm_nn h6 hn_qa1)).trans h6
  have h26 : f20 ((r 18)) = some (eI Γ 64 (fun j => (S.1 j).2.2.2.2.1)) := by rw [ef20]; exact (hm_un (hm_nn h7 hn_qa1)).trans h7
  have h27 : f20 ((r 19)) = some (eI Γ 64 (fun j => (S.1 j).2.2.2.2.2.1)) := by rw [ef20]; exact (hm_un (hm_nn h8 hn_qa1)).trans h8
  have h28 : f20 ((r 20)) = some (eI Γ 64 (fun j => (S.1 j).2.2.2.2.2.2)) := by rw [ef20]; exact (hm_un (hm_nn h9 hn_qa1)).trans h9
  have h29 : f20 m0 = some (eM r mth mpl mga mtr (nI S.2.1) (nI rr) S.2.2.1 mli dz gd S.2.2.2.1 S.2.2.2.2 fh msh msm mso msp mrf) := by rw [ef20]; exact (hm_un (hm_nn h10 hn_qa1)).trans h10
  have h30 : f20 ((r 21)) = some (eJ Γ 6 pb) := by rw [ef20]; exact (hm_un (hm_nn h11 hn_qa1)).trans h11
  have h31 : f20 ((r 22)) = some (eI Γ 6 pz) := by rw [ef20]; exact (hm_un (hm_nn h12 hn_qa1)).trans h12
  have h32 : f20 ((r 23)) = some (eI Γ 6 pd) := by rw [ef20]; exact (hm_un (hm_nn h13 hn_qa1)).trans h13
  have h33 : f20 ((r 24)) = some (eI Γ 6 pn) := by rw [ef20]; exact (hm_un (hm_nn h14 hn_qa1)).trans h14
  have h34 : f20 ((r 25)) = some (eI Γ 6 pe) := by rw [ef20]; exact (hm_un (hm_nn h15 hn_qa1)).trans h15
  have h35 : f20 ((r 26)) = some (eI Γ 6 ph) := by rw [ef20]; exact (hm_un (hm_nn h16 hn_qa1)).trans h16
  have h36 : f20 ((r 27)) = some (eI Γ 6 pg) := by rw [ef20]; exact (hm_un (hm_nn h17 hn_qa1)).trans h17
  have h37 : f20 ((r 1)) = some (eJ Γ 8 bd) := by rw [ef20]; exact (hm_un (hm_nn h18 hn_qa1)).trans h18
  have h38 : f20 ((r 2)) = some (eI Γ 8 zs) := by rw [ef20]; exact (hm_un (hm_nn h19 hn_qa1)).trans h19
  have h39 : f20 qa0 = some (eJ Γ 64 (fun j => (S.1 j).1)) := by rw [ef20]; exact (hm_un (hm_nn h2 hn_qa1)).trans h2
  have hg_qa1 : hm_k (wS m0 r) f f20 := by rw [ef20]; exact hg_qa0.upN ((hq0_qa1))
  refine hm_castI hx hb hts hown hK hH h21 dX8_priceOf_18 ?_
  refine lv_astore (lv' := [(4, .ref qa1), (3, .ref qa0), (0, .ref m0), (1, .int (nI gi)), (2, .int (nI d))]) hx hb dX8_priceOf_21 hl (by decide) rfl (fun ls hl => ?_)
  refine lv_aload_n hx hb dX8_priceOf_23 rfl (lv_at hl 2 rfl) ?_
  refine gf_X8_60 hx hb hts hown hK hH h29 rfl dX8_priceOf_24 ?_
  refine hm_cloneI (rest := []) hx hb hml hl.1 hown hts hK hO hS hH h24 (hm_gbI hH h24) (Nat.le_of_ble_eq_true rfl) (Nat.le_of_ble_eq_true rfl) (Nat.le_of_ble_eq_true rfl) (Nat.le_of_ble_eq_true rfl) dX8_priceOf_27 (fun qa2 H hH hn_qa2 hb_qa2 hS => ?_)
  have hw_qa2 : ¬ wS m0 r qa2 := notw h29 ⟨h22, h23, h24, h25, h26, h27, h28⟩ ⟨h30, h31, h32, h33, h34, h35, h36⟩ hn_qa2
  have hq0_qa2 : f qa2 = none := by cases hz9 : f qa2 with | none => rfl | some e9 => exact absurd (hg_qa1 _ _ hw_qa2 hz9) (by rw [hn_qa2]; exact fun z => by cases z)
  obtain ⟨f40, ef40⟩ : ∃ zz_, zz_ = hm_up f20 qa2 (eI Γ 64 (fun j => (S.1 j).2.2.1)) := ⟨_, rfl⟩
  have hH : hm_H Γ f40 H := by rw [ef40]; exact hH
  have h41 : f40 qa2 = some (eI Γ 64 (fun j => (S.1 j).2.2.1)) := by rw [ef40]; exact hm_us
  have h42 : f40 ((r 14)) = some (eJ Γ 64 (fun j => (S.1 j).1)) := by rw [ef40]; exact (hm_un (hm_nn h22 hn_qa2)).trans h22
  have h43 : f40 ((r 15)) = some (eI Γ 64 (fun j => (S.1 j).2.1)) := by rw [ef40]; exact (hm_un (hm_nn h23 hn_qa2)).trans h23
  have h44 : f40 ((r 16)) = some (eI Γ 64 (fun j => (S.1 j).2.2.1)) := by rw [ef40]; exact (hm_un (hm_nn h24 hn_qa2)).trans h24
  have h45 : f40 ((r 17)) = some (eI Γ 64 (fun j => (S.1 j).2.2.2.1)) := by rw [ef40]; exact (hm_un (hm_nn h25 hn_qa2)).trans h25
  have h46 : f40 ((r 18)) = some (eI Γ 64 (fun j => (S.1 j).2.2.2.2.1)) := by rw [ef40]; exact (hm_un (hm_nn h26 hn_qa2)).trans h26
  have h47 : f40 ((r 19)) = some (eI Γ 64 (fun j => (S.1 j).2.2.2.2.2.1)) := by rw [ef40]; exact (hm_un (hm_nn h27 hn_qa2)).trans h27
  have h48 : f40 ((r 20)) = some (eI Γ 64 (fun j => (S.1 j).2.2.2.2.2.2)) := by rw [ef40]; exact (hm_un (hm_nn h28 hn_qa2)).trans h28
  have h49 : f40 m0 = some (eM r mth mpl mga mtr (nI S.2.1) (nI rr) S.2.2.1 mli dz gd S.2.2.2.1 S.2.2.2.2 fh msh msm mso msp mrf) := by rw [ef40]; exact (hm_un (hm_nn h29 hn_qa2)).trans h29
  have h50 : f40 ((r 21)) = some (eJ Γ 6 pb) := by rw [ef40]; exact (hm_un (hm_nn h30 hn_qa2)).trans h30
  have h51 : f40 ((r 22)) = some (eI Γ 6 pz) := by rw [ef40]; exact (hm_un (hm_nn h31 hn_qa2)).trans h31
  have h52 : f40 ((r 23)) = some (eI Γ 6 pd) := by rw [ef40]; exact (hm_un (hm_nn h32 hn_qa2)).trans h32
  have h53 : f40 ((r 24)) = some (eI Γ 6 pn) := by rw [ef40]; exact (hm_un (hm_nn h33 hn_qa2)).trans h33
  have h54 : f40 ((r 25)) = some (eI Γ 6 pe) := by rw [ef40]; exact (hm_un (hm_nn h34 hn_qa2)).trans h34
  have h55 : f40 ((r 26)) = some (eI Γ 6 ph) := by rw [ef40]; exact (hm_un (hm_nn h35 hn_qa2)).trans h35
  have h56 : f40 ((r 27)) = some (eI Γ 6 pg) := by rw [ef40]; exact (hm_un (hm_nn h36 hn_qa2)).trans h36
  have h57 : f40 ((r 1)) = some (eJ Γ 8 bd) := by rw [ef40]; exact (hm_un (hm_nn h37 hn_qa2)).trans h37
  have h58 : f40 ((r 2)) = some (eI Γ 8 zs) := by rw [ef40]; exact (hm_un (hm_nn h38 hn_qa2)).trans h38
  have h59 : f40 qa0 = some (eJ Γ 64 (fun j => (S.1 j).1)) := by rw [ef40]; exact (hm_un (hm_nn h39 hn_qa2)).trans h39
  have h60 : f40 qa1 = some (eI Γ 64 (fun j => (S.1 j).2.1)) := by rw [ef40]; exact (hm_un (hm_nn h21 hn_qa2)).trans h21
  have hg_qa2 : hm_k (wS m0 r) f f40 := by rw [ef40]; exact hg_qa1.upN ((hq0_qa2))
  refine hm_castI hx hb hts hown hK hH h41 dX8_priceOf_30 ?_
  refine lv_astore (lv' := [(5, .ref qa2), (4, .ref qa1), (3, .ref qa0), (0, .ref m0), (1, .int (nI gi)), (2, .int (nI d))]) hx hb dX8_priceOf_33 hl (by decide) rfl (fun ls hl => ?_)
  refine lv_aload_n hx hb dX8_priceOf_35 rfl (lv_at hl 3 rfl) ?_
  refine gf_X8_63 hx hb hts hown hK hH h49 rfl dX8_priceOf_36 ?_
  refine hm_cloneI (rest := []) hx hb hml hl.1 hown hts hK hO hS hH h45 (hm_gbI hH h45) (Nat.le_of_ble_eq_true rfl) (Nat.le_of_ble_eq_true rfl) (Nat.le_of_ble_eq_true rfl) (Nat.le_of_ble_eq_true rfl) dX8_priceOf_39 (fun qa3 H hH hn_qa3 hb_qa3 hS => ?_)
  have hw_qa3 : ¬ wS m0 r qa3 := notw h49 ⟨h42, h43, h44, h45, h46, h47, h48⟩ ⟨h50, h51, h52, h53, h54, h55, h56⟩ hn_qa3
  have hq0_qa3 : f qa3 = none := by cases hz9 : f qa3 with | none => rfl | some e9 => exact absurd (hg_qa2 _ _ hw_qa3 hz9) (by rw [hn_qa3]; exact fun z => by cases z)
  obtain ⟨f61, ef61⟩ : ∃ zz_, zz_ = hm_up f40 qa3 (eI Γ 64 (fun j => (S.1 j).2.2.2.1)) := ⟨_, rfl⟩
  have hH : hm_H Γ f61 H := by rw [ef61]; exact hH
  have h62 : f61 qa3 = some (eI Γ 64 (fun j => (S.1 j).2.2.2.1)) := by rw [ef61]; exact hm_us
  have h63 : f61 ((r 14)) = some (eJ Γ 64 (fun j => (S.1 j).1)) := by rw [ef61]; exact (hm_un (hm_nn h42 hn_qa3)).trans h42
  have h64 : f61 ((r 15)) = some (eI Γ 64 (fun j => (S.1 j).2.1)) := by rw [ef61]; exact (hm_un (hm_nn h43 hn_qa3)).trans h43
  have h65 : f61 ((r 16)) = some (eI Γ 64 (fun j => (S.1 j).2.2.1)) := by rw [ef61]; exact (hm_un (hm_nn h44 hn_qa3)).trans h44
  have h66 : f61 ((r 17)) = some (eI Γ 64 (fun j => (S.1 j).2.2.2.1)) := by rw [ef61]; exact (hm_un (hm_nn h45 hn_qa3)).trans h45
  have h67 : f61 ((r 18)) = some (eI Γ 64 (fun j => (S.1 j).2.2.2.2.1)) := by rw [ef61]; exact (hm_un (hm_nn h46 hn_qa3)).trans h46
  have h68 : f61 ((r 19)) = some (eI Γ 64 (fun j => (S.1 j).2.2.2.2.2.1)) := by rw [ef61]; exact (hm_un (hm_nn h47 hn_qa3)).trans h47
  have h69 : f61 ((r 20)) = some (eI Γ 64 (fun j => (S.1 j).2.2.2.2.2.2)) := by rw [ef61]; exact (hm_un (hm_nn h48 hn_qa3)).trans h48
  have h70 : f61 m0 = some (eM r mth mpl mga mtr (nI S.2.1) (nI rr) S.2.2.1 mli dz gd S.2.2.2.1 S.2.2.2.2 fh msh msm mso msp mrf) := by rw [ef61]; exact (hm_un (hm_nn h49 hn_qa3)).trans h49
  have h71 : f61 ((r 21)) = some (eJ Γ 6 pb) := by rw [ef61]; exact (hm_un (hm_nn h50 hn_qa3)).trans h50
  have h72 : f61 ((r 22)) = some (eI Γ 6 pz) := by rw [ef61]; exact (hm_un (hm_nn h51 hn_qa3)).trans h51
  have h73 : f61 ((r 23)) = some (eI Γ 6 pd) := by rw [ef61]; exact (hm_un (hm_nn h52 hn_qa3)).trans h52
  have h74 : f61 ((r 24)) = some (eI Γ 6 pn) := by rw [ef61]; exact (hm_un (hm_nn h53 hn_qa3)).trans h53
  have h75 : f61 ((r 25)) = some (eI Γ 6 pe) := by rw [ef61]; exact (hm_un (hm_nn h54 hn_qa3)).trans h54
  have h76 : f61 ((r 26)) = some (eI Γ 6 ph) := by rw [ef61]; exact (hm_un (hm_nn h55 hn_qa3)).trans h55
  have h77 : f61 ((r 27)) = some (eI Γ 6 pg) := by rw [ef61]; exact (hm_un (hm_nn h56 hn_qa3)).trans h56
  have h78 : f61 ((r 1)) = some (eJ Γ 8 bd) := by rw [ef61]; exact (hm_un (hm_nn h57 hn_qa3)).trans h57
  have h79 : f61 ((r 2)) = some (eI Γ 8 zs) := by rw [ef61]; exact (hm_un (hm_nn h58 hn_qa3)).trans h58
  have h80 : f61 qa0 = some (eJ Γ 64 (fun j => (S.1 j).1)) := by rw [ef61]; exact (hm_un (hm_nn h59 hn_qa3)).trans h59
  have h81 : f61 qa1 = some (eI Γ 64 (fun j => (S.1 j).2.1)) := by rw [ef61]; exact (hm_un (hm_nn h60 hn_qa3)).trans h60
  have h82 : f61 qa2 = some (eI Γ 64 (fun j => (S.1 j).2.2.1)) := by rw [ef61]; exact (hm_un (hm_nn h41 hn_qa3)).trans h41
  have hg_qa3 : hm_k (wS m0 r) f f61 := by rw [ef61]; exact hg_qa2.upN ((hq0_qa3))
  refine hm_castI hx hb hts hown hK hH h62 dX8_priceOf_42 ?_
  refine lv_astore (lv' := [(6, .ref qa3), (5, .ref qa2), (4, .ref qa1), (3, .ref qa0), (0, .ref m0), (1, .int (nI gi)), (2, .int (nI d))]) hx hb dX8_priceOf_45 hl (by decide) rfl (fun ls hl => ?_)
  refine lv_aload_n hx hb dX8_priceOf_47 rfl (lv_at hl 4 rfl) ?_
  refine gf_X8_66 hx hb hts hown hK hH h70 rfl dX8_priceOf_48 ?_
  refine hm_cloneI (rest := []) hx hb hml hl.1 hown hts hK hO hS hH h67 (hm_gbI hH h67) (Nat.le_of_ble_eq_true rfl) (Nat.le_of_ble_eq_true rfl) (Nat.le_of_ble_eq_true rfl) (Nat.le_of_ble_eq_true rfl) dX8_priceOf_51 (fun qa4 H hH hn_qa4 hb_qa4 hS => ?_)
  have hw_qa4 : ¬ wS m0 r qa4 := notw h70 ⟨h63, h64, h65, h66, h67, h68, h69⟩ ⟨h71, h72, h73, h74, h75, h76, h77⟩ hn_qa4
  have hq0_qa4 : f qa4 = none := by cases hz9 : f qa4 with | none => rfl | some e9 => exact absurd (hg_qa3 _ _ hw_qa4 hz9) (by rw [hn_qa4]; exact fun z => by cases z)
  obtain ⟨f83, ef83⟩ : ∃ zz_, zz_ = hm_up f61 qa4 (eI Γ 64 (fun j => (S.1 j).2.2.2.2.1)) := ⟨_, rfl⟩
  have hH : hm_H Γ f83 H := by rw [ef83]; exact hH
  have h84 : f83 qa4 = some (eI Γ 64 (fun j => (S.1 j).2.2.2.2.1)) := by rw [ef83]; exact hm_us
  have h85 : f83 ((r 14)) = some (eJ Γ 64 (fun j => (S.1 j).1)) := by rw [ef83]; exact (hm_un (hm_nn h63 hn_qa4)).trans h63
  have h86 : f83 ((r 15)) = some (eI Γ 64 (fun j => (S.1 j).2.1)) := by rw [ef83]; exact (hm_un (hm_nn h64 hn_qa4)).trans h64
  have h87 : f83 ((r 16)) = some (eI Γ 64 (fun j => (S.1 j).2.2.1)) := by rw [ef83]; exact (hm_un (hm_nn h65 hn_qa4)).trans h65
  have h88 : f83 ((r 17)) = some (eI Γ 64 (fun j => (S.1 j).2.2.2.1)) := by rw [ef83]; exact (hm_un (hm_nn h66 hn_qa4)).trans h66
  have h89 : f83 ((r 18)) = some (eI Γ 64 (fun j => (S.1 j).2.2.2.2.1)) := by rw [ef83]; exact (hm_un (hm_nn h67 hn_qa4)).trans h67
  have h90 : f83 ((r 19)) = some (eI Γ 64 (fun j => (S.1 j).2.2.2.2.2.1)) := by rw [ef83]; exact (hm_un (hm_nn h68 hn_qa4)).trans h68
  have h91 : f83 ((r 20)) = some (eI Γ 64 (fun j => (S.1 j).2.2.2.2.2.2)) := by rw [ef83]; exact (hm_un (hm_nn h69 hn_qa4)).trans h69
  have h92 : f83 m0 = some (eM r mth mpl mga mtr (nI S.2.1) (nI rr) S.2.2.1 mli dz gd S.2.2.2.1 S.2.2.2.2 fh msh msm mso msp mrf) := by rw [ef83]; exact (hm_un (hm_nn h70 hn_qa4)).trans h70
  have h93 : f83 ((r 21)) = some (eJ Γ 6 pb) := by rw [ef83]; exact (hm_un (hm_nn h71 hn_qa4)).trans h71
  have h94 : f83 ((r 22)) = some (eI Γ 6 pz) := by rw [ef83]; exact (hm_un (hm_nn h72 hn_qa4)).trans h72
  have h95 : f83 ((r 23)) = some (eI Γ 6 pd) := by rw [ef83]; exact (hm_un (hm_nn h73 hn_qa4)).trans h73
  have h96 : f83 ((r 24)) = some (eI Γ 6 pn) := by rw [ef83]; exact (hm_un (hm_nn h74 hn_qa4)).trans h74
  have h97 : f83 ((r 25)) = some (eI Γ 6 pe) := by rw [ef83]; exact (hm_un (hm_nn h75 hn_qa4)).trans h75
  have h98 : f83 ((r 26)) = some (eI Γ 6 ph) := by rw [ef83]; exact (hm_un (hm_nn h76 hn_qa4)).trans h76
  have h99 : f83 ((r 27)) = some (eI Γ 6 pg) := by rw [ef83]; exact (hm_un (hm_nn h77 hn_qa4)).trans h77
  have h100 : f83 ((r 1)) = some (eJ Γ 8 bd) := by rw [ef83]; exact (hm_un (hm_nn h78 hn_qa4)).trans h78
  have h101 : f83 ((r 2)) = some (eI Γ 8 zs) := by rw [ef83]; exact (hm_un (hm_nn h79 hn_qa4)).trans h79
  have h102 : f83 qa0 = some (eJ Γ 64 (fun j => (S.1 j).1)) := by rw [ef83]; exact (hm_un (hm_nn h80 hn_qa4)).trans h80
  have h103 : f83 qa1 = some (eI Γ 64 (fun j => (S.1 j).2.1)) := by rw [ef83]; exact (hm_un (hm_nn h81 hn_qa4)).trans h81
  have h104 : f83 qa2 = some (eI Γ 64 (fun j => (S.1 j).2.2.1)) := by rw [ef83]; exact (hm_un (hm_nn h82 hn_qa4)).trans h82
  have h105 : f83 qa3 = some (eI Γ 64 (fun j => (S.1 j).2.2.2.1)) := by rw [ef83]; exact (hm_un (hm_nn h62 hn_qa4)).trans h62
  have hg_qa4 : hm_k (wS m0 r) f f83 := by rw [ef83]; exact hg_qa3.upN ((hq0_qa4))
  refine hm_castI hx hb hts hown hK hH h84 dX8_priceOf_54 ?_
  refine lv_astore (lv' := [(7, .ref qa4), (6, .ref qa3), (5, .ref qa2), (4, .ref qa1), (3, .ref qa0), (0, .ref m0), (1, .int (nI gi)), (2, .int (nI d))]) hx hb dX8_priceOf_57 hl (by decide) rfl (fun ls hl => ?_)
  refine lv_aload_n hx hb dX8_priceOf_59 rfl (lv_at hl 5 rfl) ?_
  refine gf_X8_69 hx hb hts hown hK hH h92 rfl dX8_priceOf_60 ?_
  refine hm_cloneI (rest := []) hx hb hml hl.1 hown hts hK hO hS hH h90 (hm_gbI hH h90) (Nat.le_of_ble_eq_true rfl) (Nat.le_of_ble_eq_true rfl) (Nat.le_of_ble_eq_true rfl) (Nat.le_of_ble_eq_true rfl) dX8_priceOf_63 (fun qa5 H hH hn_qa5 hb_qa5 hS => ?_)
  have hw_qa5 : ¬ wS m0 r qa5 := notw h92 ⟨h85, h86, h87, h88, h89, h90, h91⟩ ⟨h93, h94, h95, h96, h97, h98, h99⟩ hn_qa5
  have hq0_qa5 : f qa5 = none := by cases hz9 : f qa5 with | none => rfl | some e9 => exact absurd (hg_qa4 _ _ hw_qa5 hz9) (by rw [hn_qa5]; exact fun z => by cases z)
  obtain ⟨f106, ef106⟩ : ∃ zz_, zz_ = hm_up f83 qa5 (eI Γ 64 (fun j => (S.1 j).2.2.2.2.2.1)) := ⟨_, rfl⟩
  have hH : hm_H Γ f106 H := by rw [ef106]; exact hH
  have h107 : f106 qa5 = some (eI Γ 64 (fun j => (S.1 j).2.2.2.2.2.1)) := by rw [ef106]; exact hm_us
  have h108 : f106 ((r 14)) = some (eJ Γ 64 (fun j => (S.1 j).1)) := by rw [ef106]; exact (hm_un (hm_nn h85 hn_qa5)).trans h85
  have h109 : f106 ((r 15)) = some (eI Γ 64 (fun j => (S.1 j).2.1)) := by rw [ef106]; exact (hm_un (hm_nn h86 hn_qa5)).trans h86
  have h110 : f106 ((r 16)) = some (eI Γ 64 (fun j => (S.1 j).2.2.1)) := by rw [ef106]; exact (hm_un (hm_nn h87 hn_qa5)).trans h87
  have h111 : f106 ((r 17)) = some (eI Γ 64 (fun j => (S.1 j).2.2.2.1)) := by rw [ef106]; exact (hm_un (hm_nn h88 hn_qa5)).trans h88
  have h112 : f106 ((r 18)) = some (eI Γ 64 (fun j => (S.1 j).2.2.2.2.1)) := by rw [ef106]; exact (hm_un (hm_nn h89 hn_qa5)).trans h89
  have h113 : f106 ((r 19)) = some (eI Γ 64 (fun j => (S.1 j).2.2.2.2.2.1)) := by rw [ef106]; exact (hm_un (hm_nn h90 hn_qa5)).trans h90
  have h114 : f106 ((r 20)) = some (eI Γ 64 (fun j => (S.1 j).2.2.2.2.2.2)) := by rw [ef106]; exact (hm_un (hm_nn h91 hn_qa5)).trans h91
  have h115 : f106 m0 = some (eM r mth mpl mga mtr (nI S.2.1) (nI rr) S.2.2.1 mli dz gd S.2.2.2.1 S.2.2.2.2 fh msh msm mso msp mrf) := by rw [ef106]; exact (hm_un (hm_nn h92 hn_qa5)).trans h92
  have h116 : f106 ((r 21)) = some (eJ Γ 6 pb) := by rw [ef106]; exact (hm_un (hm_nn h93 hn_qa5)).trans h93
  have h117 : f106 ((r 22)) = some (eI Γ 6 pz) := by rw [ef106]; exact (hm_un (hm_nn h94 hn_qa5)).trans h94
  have h118 : f106 ((r 23)) = some (eI Γ 6 pd) := by rw [ef106]; exact (hm_un (hm_nn h95 hn_qa5)).trans h95
  have h119 : f106 ((r 24)) = some (eI Γ 6 pn) := by rw [ef106]; exact (hm_un (hm_nn h96 hn_qa5)).trans h96
  have h120 : f106 ((r 25)) = some (eI Γ 6 pe) := by rw [ef106]; exact (hm_un (hm_nn h97 hn_qa5)).trans h97
  have h121 : f106 ((r 26)) = some (eI Γ 6 ph) := by rw [ef106]; exact (hm_un (hm_nn h98 hn_qa5)).trans h98
  have h122 : f106 ((r 27)) = some (eI Γ 6 pg) := by rw [ef106]; exact (hm_un (hm_nn h99 hn_qa5)).trans h99
  have h123 : f106 ((r 1)) = some (eJ Γ 8 bd) := by rw [ef106]; exact (hm_un (hm_nn h100 hn_qa5)).trans h100
  have h124 : f106 ((r 2)) = some (eI Γ 8 zs) := by rw [ef106]; exact (hm_un (hm_nn h101 hn_qa5)).trans h101
  have h125 : f106 qa0 = some (eJ Γ 64 (fun j => (S.1 j).1)) := by rw [ef106]; exact (hm_un (hm_nn h102 hn_qa5)).trans h102
  have h126 : f106 qa1 = some (eI Γ 64 (fun j => (S.1 j).2.1)) := by rw [ef106]; exact (hm_un (hm_nn h103 hn_qa5)).trans h103
  have h127 : f106 qa2 = some (eI Γ 64 (fun j => (S.1 j).2.2.1)) := by rw [ef106]; exact (hm_un (hm_nn h104 hn_qa5)).trans h104
  have h128 : f106 qa3 = some (eI Γ 64 (fun j => (S.1 j).2.2.2.1)) := by rw [ef106]; exact (hm_un (hm_nn h105 hn_qa5)).trans h105
  have h129 : f106 qa4 = some (eI Γ 64 (fun j => (S.1 j).2.2.2.2.1)) := by rw [ef106]; exact (hm_un (hm_nn h84 hn_qa5)).trans h84
  have hg_qa5 : hm_k (wS m0 r) f f106 := by rw [ef106]; exact hg_qa4.upN ((hq0_qa5))
  refine hm_castI hx hb hts hown hK hH h107 dX8_priceOf_66 ?_
  refine lv_astore (lv' := [(8, .ref qa5), (7, .ref qa4), (6, .ref qa3), (5, .ref qa2), (4, .ref qa1), (3, .ref qa0), (0, .ref m0), (1, .int (nI gi)), (2, .int (nI d))]) hx hb dX8_priceOf_69 hl (by decide) rfl (fun ls hl => ?_)
  refine lv_aload_n hx hb dX8_priceOf_71 rfl (lv_at hl 6 rfl) ?_
  refine gf_X8_72 hx hb hts hown hK hH h115 rfl dX8_priceOf_72 ?_
  refine hm_cloneI (rest := []) hx hb hml hl.1 hown hts hK hO hS hH h114 (hm_gbI hH h114) (Nat.le_of_ble_eq_true rfl) (Nat.le_of_ble_eq_true rfl) (Nat.le_of_ble_eq_true rfl) (Nat.le_of_ble_eq_true rfl) dX8_priceOf_75 (fun qa6 H hH hn_qa6 hb_qa6 hS => ?_)
  have hw_qa6 : ¬ wS m0 r qa6 := notw h115 ⟨h108, h109, h110, h111, h112, h113, h114⟩ ⟨h116, h117, h118, h119, h120, h121, h122⟩ hn_qa6
  have hq0_qa6 : f qa6 = none := by cases hz9 : f qa6 with | none => rfl | some e9 => exact absurd (hg_qa5 _ _ hw_qa6 hz9) (by rw [hn_qa6]; exact fun z => by cases z)
  obtain ⟨f130, ef130⟩ : ∃ zz_, zz_ = hm_up f106 qa6 (eI Γ 64 (fun j => (S.1 j).2.2.2.2.2.2)) := ⟨_, rfl⟩
  have hH : hm_H Γ f130 H := by rw [ef130]; exact hH
  have h131 : f130 qa6 = some (eI Γ 64 (fun j => (S.1 j).2.2.2.2.2.2)) := by rw [ef130]; exact hm_us
  have h132 : f130 ((r 14)) = some (eJ Γ 64 (fun j => (S.1 j).1)) := by rw [ef130]; exact (hm_un (hm_nn h108 hn_qa6)).trans h108
  have h133 : f130 ((r 15)) = some (eI Γ 64 (fun j => (S.1 j).2.1)) := by rw [ef130]; exact (hm_un (hm_nn h109 hn_qa6)).trans h109
  have h134 : f130 ((r 16)) = some (eI Γ 64 (fun j => (S.1 j).2.2.1)) := by rw [ef130]; exact (hm_un (hm_nn h110 hn_qa6)).trans h110
  have h135 : f130 ((r 17)) = some (eI Γ 64 (fun j => (S.1 j).2.2.2.1)) := by rw [ef130]; exact (hm_un (hm_nn h111 hn_qa6)).trans h111
  have h136 : f130 ((r 18)) = some (eI Γ 64 (fun j => (S.1 j).2.2.2.2.1)) := by rw [ef130]; exact (hm_un (hm_nn h112 hn_qa6)).trans h112
  have h137 : f130 ((r 19)) = some (eI Γ 64 (fun j => (S.1 j).2.2.2.2.2.1)) := by rw [ef130]; exact (hm_un (hm_nn h113 hn_qa6)).trans h113
  have h138 : f130 ((r 20)) = some (eI Γ 64 (fun j => (S.1 j).2.2.2.2.2.2)) := by rw [ef130]; exact (hm_un (hm_nn h114 hn_qa6)).trans h114
  have h139 : f130 m0 = some (eM r mth mpl mga mtr (nI S.2.1) (nI rr) S.2.2.1 mli dz gd S.2.2.2.1 S.2.2.2.2 fh msh msm mso msp mrf) := by rw [ef130]; exact (hm_un (hm_nn h115 hn_qa6)).trans h115
  have h140 : f130 ((r 21)) = some (eJ Γ 6 pb) := by rw [ef130]; exact (hm_un (hm_nn h116 hn_qa6)).trans h116
  have h141 : f130 ((r 22)) = some (eI Γ 6 pz) := by rw [ef130]; exact (hm_un (hm_nn h117 hn_qa6)).trans h117
  have h142 : f130 ((r 23)) = some (eI Γ 6 pd) := by rw [ef130]; exact (hm_un (hm_nn h118 hn_qa6)).trans h118
  have h143 : f130 ((r 24)) = some (eI Γ 6 pn) := by rw [ef130]; exact (hm_un (hm_nn h119 hn_qa6)).trans h119
  have h144 : f130 ((r 25)) = some (eI Γ 6 pe) := by rw [ef130]; exact (hm_un (hm_nn h120 hn_qa6)).trans h120
  have h145 : f130 ((r 26)) = some (eI Γ 6 ph) := by rw [ef130]; exact (hm_un (hm_nn h121 hn_qa6)).trans h121
  have h146 : f130 ((r 27)) = some (eI Γ 6 pg) := by rw [ef130]; exact (hm_un (hm_nn h122 hn_qa6)).trans h122
  have h147 : f130 ((r 1)) = some (eJ Γ 8 bd) := by rw [ef130]; exact (hm_un (hm_nn h123 hn_qa6)).trans h123
  have h148 : f130 ((r 2)) = some (eI Γ 8 zs) := by rw [ef130]; exact (hm_un (hm_nn h124 hn_qa6)).trans h124
  have h149 : f130 qa0 = some (eJ Γ 64 (fun j => (S.1 j).1)) := by rw [ef130]; exact (hm_un (hm_nn h125 hn_qa6)).trans h125
  have h150 : f130 qa1 = some (eI Γ 64 (fun j => (S.1 j).2.1)) := by rw [ef130]; exact (hm_un (hm_nn h126 hn_qa6)).trans h126
  have h151 : f130 qa2 = some (eI Γ 64 (fun j => (S.1 j).2.2.1)) := by rw [ef130]; exact (hm_un (hm_nn h127 hn_qa6)).trans h127
  have h152 : f130 qa3 = some (eI Γ 64 (fun j => (S.1 j).2.2.2.1)) := by rw [ef130]; exact (hm_un (hm_nn h128 hn_qa6)).trans h128
  have h153 : f130 qa4 = some (eI Γ 64 (fun j => (S.1 j).2.2.2.2.1)) := by rw [ef130]; exact (hm_un (hm_nn h129 hn_qa6)).trans h129
  have h154 : f130 qa5 = some (eI Γ 64 (fun j => (S.1 j).2.2.2.2.2.1)) := by rw [ef130]; exact (hm_un (hm_nn h107 hn_qa6)).trans h107
  have hg_qa6 : hm_k (wS m0 r) f f130 := by rw [ef130]; exact hg_qa5.upN ((hq0_qa6))
  refine hm_castI hx hb hts hown hK hH h131 dX8_priceOf_78 ?_
  refine lv_astore (lv' := [(9, .ref qa6), (8, .ref qa5), (7, .ref qa4), (6, .ref qa3), (5, .ref qa2), (4, .ref qa1), (3, .ref qa0), (0, .ref m0), (1, .int (nI gi)), (2, .int (nI d))]) hx hb dX8_priceOf_81 hl (by decide) rfl (fun ls hl => ?_)
  refine lv_aload_n hx hb dX8_priceOf_83 rfl (lv_at hl 7 rfl) ?_
  refine gf_X8_169 hx hb hts hown hK hH h139 rfl dX8_priceOf_84 ?_
  refine lv_istore (lv' := [(10, .int (nI S.2.1)), (9, .ref qa6), (8, .ref qa5), (7, .ref qa4), (6, .ref qa3), (5, .ref qa2), (4, .ref qa1), (3, .ref qa0), (0, .ref m0), (1, .int (nI gi)), (2, .int (nI d))]) hx hb dX8_priceOf_87 hl (by decide) rfl (fun ls hl => ?_)
  refine lv_aload_n hx hb dX8_priceOf_89 rfl (lv_at hl 8 rfl) ?_
  refine gf_X8_180 hx hb hts hown hK hH h139 rfl dX8_priceOf_90 ?_
  refine lv_istore (lv' := [(11, .int S.2.2.1), (10, .int (nI S.2.1)), (9, .ref qa6), (8, .ref qa5), (7, .ref qa4), (6, .ref qa3), (5, .ref qa2), (4, .ref qa1), (3, .ref qa0), (0, .ref m0), (1, .int (nI gi)), (2, .int (nI d))]) hx hb dX8_priceOf_93 hl (by decide) rfl (fun ls hl => ?_)
  refine lv_aload_n hx hb dX8_priceOf_95 rfl (lv_at hl 9 rfl) ?_
  refine lv_iconst (v := 0) hx hb dX8_priceOf_96 (by decide) ?_
  refine pf_X8_193 hx hb hts hown hK hO hS hH h139 rfl (Nat.le_of_ble_eq_true rfl) rfl dX8_priceOf_97 (fun H locs hH hS => ?_)
  obtain ⟨f155, ef155⟩ : ∃ zz_, zz_ = hm_up f130 m0 (eM r mth mpl mga mtr (nI S.2.1) (nI rr) S.2.2.1 mli dz gd S.2.2.2.1 0 fh msh msm mso msp mrf) := ⟨_, rfl⟩
  have hH : hm_H Γ f155 H := by rw [ef155]; exact hH
  have h156 : f155 m0 = some (eM r mth mpl mga mtr (nI S.2.1) (nI rr) S.2.2.1 mli dz gd S.2.2.2.1 0 fh msh msm mso msp mrf) := by rw [ef155]; exact hm_us
  have h157 : f155 ((r 14)) = some (eJ Γ 64 (fun j => (S.1 j).1)) := by rw [ef155]; exact (hm_un (hm_ne h132 h139 (fun q => by cases q))).trans h132
  have h158 : f155 ((r 15)) = some (eI Γ 64 (fun j => (S.1 j).2.1)) := by rw [ef155]; exact (hm_un (hm_ne h133 h139 (fun q => by cases q))).trans h133
  have h159 : f155 ((r 16)) = some (eI Γ 64 (fun j => (S.1 j).2.2.1)) := by rw [ef155]; exact (hm_un (hm_ne h134 h139 (fun q => by cases q))).trans h134
  have h160 : f155 ((r 17)) = some (eI Γ 64 (fun j => (S.1 j).2.2.2.1)) := by rw [ef155]; exact (hm_un (hm_ne h135 h139 (fun q => by cases q))).trans h135
  have h161 : f155 ((r 18)) = some (eI Γ 64 (fun j => (S.1 j).2.2.2.2.1)) := by rw [ef155]; exact (hm_un (hm_ne h136 h139 (fun q => by cases q))).trans h136
  have h162 : f155 ((r 19)) = some (eI Γ 64 (fun j => (S.1 j).2.2.2.2.2.1)) := by rw [ef155]; exact (hm_un (hm_ne h137 h139 (fun q => by cases q))).trans h137
  have h163 : f155 ((r 20)) = some (eI Γ 64 (fun j => (S.1 j).2.2.2.2.2.2)) := by rw [ef155]; exact (hm_un (hm_ne h138 h139 (fun q => by cases q))).trans h138
  have h164 : f155 ((r 21)) = some (eJ Γ 6 pb) := by rw [ef155]; exact (hm_un (hm_ne h140 h139 (fun q => by cases q))).trans h140
  have h165 : f155 ((r 22)) = some (eI Γ 6 pz) := by rw [ef155]; exact (hm_un (hm_ne h141 h139 (fun q => by cases q))).trans h141
  have h166 : f155 ((r 23)) = some (eI Γ 6 pd) := by rw [ef155]; exact (hm_un (hm_ne h142 h139 (fun q => by cases q))).trans h142
  have h167 : f155 ((r 24)) = some (eI Γ 6 pn) := by rw [ef155]; exact (hm_un (hm_ne h143 h139 (fun q => by cases q))).trans h143
  have h168 : f155 ((r 25)) = some (eI Γ 6 pe) := by rw [ef155]; exact (hm_un (hm_ne h144 h139 (fun q => by cases q))).trans h144
  have h169 : f155 ((r 26)) = some (eI Γ 6 ph) := by rw [ef155]; exact (hm_un (hm_ne h145 h139 (fun q => by cases q))).trans h145
  have h170 : f155 ((r 27)) = some (eI Γ 6 pg) := by rw [ef155]; exact (hm_un (hm_ne h146 h139 (fun q => by cases q))).trans h146
  have h171 : f155 ((r 1)) = some (eJ Γ 8 bd) := by rw [ef155]; exact (hm_un (hm_ne h147 h139 (fun q => by cases q))).trans h147
  have h172 : f155 ((r 2)) = some (eI Γ 8 zs) := by rw [ef155]; exact (hm_un (hm_ne h148 h139 (fun q => by cases q))).trans h148
  have h173 : f155 qa0 = some (eJ Γ 64 (fun j => (S.1 j).1)) := by rw [ef155]; exact (hm_un (hm_ne h149 h139 (fun q => by cases q))).trans h149
  have h174 : f155 qa1 = some (eI Γ 64 (fun j => (S.1 j).2.1)) := by rw [ef155]; exact (hm_un (hm_ne h150 h139 (fun q => by cases q))).trans h150
  have h175 : f155 qa2 = some (eI Γ 64 (fun j => (S.1 j).2.2.1)) := by rw [ef155]; exact (hm_un (hm_ne h151 h139 (fun q => by cases q))).trans h151
  have h176 : f155 qa3 = some (eI Γ 64 (fun j => (S.1 j).2.2.2.1)) := by rw [ef155]; exact (hm_un (hm_ne h152 h139 (fun q => by cases q))).trans h152
  have h177 : f155 qa4 = some (eI Γ 64 (fun j => (S.1 j).2.2.2.2.1)) := by rw [ef155]; exact (hm_un (hm_ne h153 h139 (fun q => by cases q))).trans h153
  have h178 : f155 qa5 = some (eI Γ 64 (fun j => (S.1 j).2.2.2.2.2.1)) := by rw [ef155]; exact (hm_un (hm_ne h154 h139 (fun q => by cases q))).trans h154
  have h179 : f155 qa6 = some (eI Γ 64 (fun j => (S.1 j).2.2.2.2.2.2)) := by rw [ef155]; exact (hm_un (hm_ne h131 h139 (fun q => by cases q))).trans h131
  refine lv_aload_n hx hb dX8_priceOf_100 rfl (lv_at hl 9 rfl) ?_
  refine lv_aload_n hx hb dX8_priceOf_101 rfl (lv_at hl 9 rfl) ?_
  refine gf_X8_13 hx hb hts hown hK hH h156 rfl dX8_priceOf_102 ?_
  refine lv_iload_n hx hb dX8_priceOf_105 rfl (lv_at hl 10 rfl) ?_
  refine hm_lald hx hb hK hH h171 (vp_in_nI hgi (by decide)) dX8_priceOf_106 ?_
  refine lv_topl (fun v180 ev180 => ?_)
  replace ev180 : v180 = b4 t := ev180.trans (by show bd (nI gi).toNatClampNeg = _; rw [nI_clamp (by omega)]; exact hbd)
  subst ev180
  refine lv_aload_n hx hb dX8_priceOf_107 rfl (lv_at hl 9 rfl) ?_
  refine gf_X8_17 hx hb hts hown hK hH h156 rfl dX8_priceOf_108 ?_
  refine lv_iload_n hx hb dX8_priceOf_111 rfl (lv_at hl 10 rfl) ?_
  refine hm_iald hx hb hK hH h172 (vp_in_nI hgi (by decide)) dX8_priceOf_112 ?_
  refine lv_topi (fun v181 ev181 => ?_)
  replace ev181 : v181 = nI z := ev181.trans (by show zs (nI gi).toNatClampNeg = _; rw [nI_clamp (by omega)]; exact hzs)
  subst ev181
  refine lv_iload_n hx hb dX8_priceOf_113 rfl (lv_at hl 11 rfl) ?_
  refine lv_iconst (v := 1) hx hb dX8_priceOf_114 (by decide) ?_
  have hgm : hm_k (wS m0 r) f f155 := by rw [ef155]; exact hg_qa6.up (Or.inl rfl)
  refine hm_callV (rest := []) (k := 4) q5_213 q5_215 q1_9 q5_216 q0_26 rfl nm_X8_worthOf rfl hx hb hml hown hts hK hO hS hH hl.1 h156 (c_X8_worthOf Γ l m0 r mth mpl mga mtr mli msh msm mso msp mrf rr true (S.1, S.2.1, S.2.2.1, S.2.2.2.1, 0) dz gd fh pb pz pd pn pe ph pg t z d f155 ⟨h156, ⟨h157, h158, h159, h160, h161, h162, h163⟩, ⟨h164, h165, h166, h167, h168, h169, h170⟩⟩ hrI hrr hr1 hmo hd4 hw hz) ⟨Nat.le_of_ble_eq_true rfl, Nat.le_of_ble_eq_true rfl⟩ ⟨Nat.le_of_ble_eq_true rfl, Nat.le_of_ble_eq_true rfl⟩ rfl (Nat.le_of_ble_eq_true rfl) dX8_priceOf_115 (fun v_ f2_ H locs hp_ hH hS => ?_)
  obtain ⟨rfl, ⟨dz2, gd2, pb2, pz2, pd2, pn2, pe2, ph2, pg2, hHd2⟩, hfr2⟩ := hp_
  refine W.eq (g2 := F0 m 118 ls [.int (nI (wp d t z).1)]) rfl ?_
  obtain ⟨hm2, hKA2, hPA2⟩ := id hHd2
  have hc2_0 : f2_ qa0 = some (eJ Γ 64 (fun j => (S.1 j).1)) := (hfr2 _ hw_qa0).trans h173
  have hc2_1 : f2_ qa1 = some (eI Γ 64 (fun j => (S.1 j).2.1)) := (hfr2 _ hw_qa1).trans h174
  have hc2_2 : f2_ qa2 = some (eI Γ 64 (fun j => (S.1 j).2.2.1)) := (hfr2 _ hw_qa2).trans h175
  have hc2_3 : f2_ qa3 = some (eI Γ 64 (fun j => (S.1 j).2.2.2.1)) := (hfr2 _ hw_qa3).trans h176
  have hc2_4 : f2_ qa4 = some (eI Γ 64 (fun j => (S.1 j).2.2.2.2.1)) := (hfr2 _ hw_qa4).trans h177
  have hc2_5 : f2_ qa5 = some (eI Γ 64 (fun j => (S.1 j).2.2.2.2.2.1)) := (hfr2 _ hw_qa5).trans h178
  have hc2_6 : f2_ qa6 = some (eI Γ 64 (fun j => (S.1 j).2.2.2.2.2.2)) := (hfr2 _ hw_qa6).trans h179
  have hg2 : hm_k (wS m0 r) f f2_ := hgm.tr hfr2.k
  refine lv_istore (lv' := [(12, .int (nI (wp d t z).1)), (11, .int S.2.2.1), (10, .int (nI S.2.1)), (9, .ref qa6), (8, .ref qa5), (7, .ref qa4), (6, .ref qa3), (5, .ref qa2), (4, .ref qa1), (3, .ref qa0), (0, .ref m0), (1, .int (nI gi)), (2, .int (nI d))]) hx hb dX8_priceOf_118 hl (by decide) rfl (fun ls hl => ?_)
  refine lv_iconst (v := 0) hx hb dX8_priceOf_120 (by decide) ?_
  refine lv_istore (lv' := [(13, .int 0), (12, .int (nI (wp d t z).1)), (11, .int S.2.2.1), (10, .int (nI S.2.1)), (9, .ref qa6), (8, .ref qa5), (7, .ref qa4), (6, .ref qa3), (5, .ref qa2), (4, .ref qa1), (3, .ref qa0), (0, .ref m0), (1, .int (nI gi)), (2, .int (nI d))]) hx hb dX8_priceOf_121 hl (by decide) rfl (fun ls hl => ?_)
  have hl := hl
  have loop : ∀ (k_ i : Nat) (f3 : Hm), i + k_ = 64 → KA Γ f3 r (mixE S.1 (trM true rr d t z (S.1, S.2.1, S.2.2.1, S.2.2.2.1, 0)).1 i) → hm_fr (kS m0 r) f2_ f3 → f3 m0 = f2_ m0 → ∀ (H : Heap) (locs : List Loc), hm_H Γ f3 H → va_S (gA Γ) s.heap H locs → ∀ ls : Array Slot, lv_has ls 14 [(13, .int (nI i)), (12, .int (nI (wp d t z).1)), (11, .int S.2.2.1), (10, .int (nI S.2.1)), (3, .ref qa0), (4, .ref qa1), (5, .ref qa2), (6, .ref qa3), (7, .ref qa4), (8, .ref qa5), (9, .ref qa6), (0, .ref m0)] → W p l e (rmk 5 7 448) s m args below meth c H locs 7 448 (MQ below (hm_Q Γ (fun v f' => v = some (.int (mxI (trM true rr d t z (S.1, S.2.1, S.2.2.1, S.2.2.2.1, 0)).2.2.2.2 1)) ∧ (∃ (dz2 gd2 : Int32) (pb2 : Nat → Int64) (pz2 pd2 pn2 pe2 ph2 pg2 : Nat → Int32), HD Γ f' m0 r mth mpl mga mtr mli msh msm mso msp mrf rr ((mixE S.1 (trM true rr d t z (S.1, S.2.1, S.2.2.1, S.2.2.2.1, 0)).1 64, S.2.1, S.2.2.1, (trM true rr d t z (S.1, S.2.1, S.2.2.1, S.2.2.2.1, 0)).2.2.2.1, (trM true rr d t z (S.1, S.2.1, S.2.2.1, S.2.2.2.1, 0)).2.2.2.2)) dz2 gd2 ((wp d t z).2) pb2 pz2 pd2 pn2 pe2 ph2 pg2) ∧ hm_k (wS m0 r) f f')) args s 7 448 (gA Γ)) (F0 m 123 ls []) := by
    intro k_
    induction k_ with
    | zero =>
      intro i f3 hin_ hKA3 hfr3 hm3 H locs hH hS ls hl
      have hi : i = 64 := by omega
      subst hi
      have hmm := hm3.trans hm2
      have hPA3 := PAkp hPA2 hm2 hrI hfr3
      refine lv_iload hx hb dX8_priceOf_123 (lv_at hl 0 rfl) ?_
      refine lv_bipush (v := 64) hx hb dX8_priceOf_125 (by decide) ?_
      refine lv_icmp_ge (tgt := 219) hx hb dX8_priceOf_127 (by decide) (fun _ => ?_) (fun c1 => absurd (by decide) c1)
      refine lv_aload_n hx hb dX8_priceOf_219 rfl (lv_at hl 11 rfl) ?_
      refine lv_iload hx hb dX8_priceOf_220 (lv_at hl 3 rfl) ?_
      refine pf_X8_169 hx hb hts hown hK hO hS hH hmm rfl (Nat.le_of_ble_eq_true rfl) rfl dX8_priceOf_222 (fun H locs hH hS => ?_)
      obtain ⟨f2, ef2⟩ : ∃ zz_, zz_ = hm_up f3 m0 (eM r mth mpl mga mtr (nI S.2.1) (nI rr) (((trM true rr d t z (S.1, S.2.1, S.2.2.1, S.2.2.2.1, 0))).2.2.1) mli dz2 gd2 (((trM true rr d t z (S.1, S.2.1, S.2.2.1, S.2.2.2.1, 0))).2.2.2.1) (((trM true rr d t z (S.1, S.2.1, S.2.2.1, S.2.2.2.1, 0))).2.2.2.2) ((wp d t z).2) msh msm mso msp mrf) := ⟨_, rfl⟩
      have hH : hm_H Γ f2 H := by rw [ef2]; exact hH
      have h3 : f2 m0 = some (eM r mth mpl mga mtr (nI S.2.1) (nI rr) (((trM true rr d t z (S.1, S.2.1, S.2.2.1, S.2.2.2.1, 0))).2.2.1) mli dz2 gd2 (((trM true rr d t z (S.1, S.2.1, S.2.2.1, S.2.2.2.1, 0))).2.2.2.1) (((trM true rr d t z (S.1, S.2.1, S.2.2.1, S.2.2.2.1, 0))).2.2.2.2) ((wp d t z).2) msh msm mso msp mrf) := by rw [ef2]; exact hm_us
      refine lv_aload_n hx hb dX8_priceOf_225 rfl (lv_at hl 11 rfl) ?_
      refine lv_iload hx hb dX8_priceOf_226 (lv_at hl 2 rfl) ?_
      refine pf_X8_180 hx hb hts hown hK hO hS hH h3 rfl (Nat.le_of_ble_eq_true rfl) rfl dX8_priceOf_228 (fun H locs hH hS => ?_)
      obtain ⟨f4, ef4⟩ : ∃ zz_, zz_ = hm_up f2 m0 (eM r mth mpl mga mtr (nI S.2.1) (nI rr) S.2.2.1 mli dz2 gd2 (((trM true rr d t z (S.1, S.2.1, S.2.2.1, S.2.2.2.1, 0))).2.2.2.1) (((trM true rr d t z (S.1, S.2.1, S.2.2.1, S.2.2.2.1, 0))).2.2.2.2) ((wp d t z).2) msh msm mso msp mrf) := ⟨_, rfl⟩
      have hH : hm_H Γ f4 H := by rw [ef4]; exact hH
      have h5 : f4 m0 = some (eM r mth mpl mga mtr (nI S.2.1) (nI rr) S.2.2.1 mli dz2 gd2 (((trM true rr d t z (S.1, S.2.1, S.2.2.1, S.2.2.2.1, 0))).2.2.2.1) (((trM true rr d t z (S.1, S.2.1, S.2.2.1, S.2.2.2.1, 0))).2.2.2.2) ((wp d t z).2) msh msm mso msp mrf) := by rw [ef4]; exact hm_us
      refine lv_iload hx hb dX8_priceOf_231 (lv_at hl 1 rfl) ?_
      refine lv_if_lt (tgt := 244) hx hb dX8_priceOf_233 (by decide) (fun c6 => absurd c6 (nI_pos (by have := wp_le (d := d) (t := t) (z := z) hw; omega))) (fun _ => ?_)
      refine lv_aload_n hx hb dX8_priceOf_236 rfl (lv_at hl 11 rfl) ?_
      refine gf_X8_193 hx hb hts hown hK hH h5 rfl dX8_priceOf_237 ?_
      refine lv_iconst (v := 1) hx hb dX8_priceOf_240 (by decide) ?_
      refine lv_icmp_ge (tgt := 248) hx hb dX8_priceOf_241 (by decide) (fun c7 => ?_) (fun c7 => ?_)
      · refine lv_aload_n hx hb dX8_priceOf_248 rfl (lv_at hl 11 rfl) ?_
        refine gf_X8_193 hx hb hts hown hK hH h5 rfl dX8_priceOf_249 ?_
        have hk9 : hm_fr (fun q => q = m0) f3 f4 := by rw [ef4, ef2]; exact ((hm_fr.rf (S := fun q => q = m0)).up rfl).up rfl
        have hn9 : ∀ b x, f3 b = some (.inl x) → ¬ b = m0 := fun b x hb => hm_ne hb hmm (fun q => by cases q)
        have hKA9 : KA Γ f4 r (mixE S.1 (trM true rr d t z (S.1, S.2.1, S.2.2.1, S.2.2.2.1, 0)).1 64) := by
          obtain ⟨a0, a1, a2, a3, a4, a5, a6⟩ := hKA3
          exact ⟨(hk9 _ (hn9 _ _ a0)).trans a0, (hk9 _ (hn9 _ _ a1)).trans a1, (hk9 _ (hn9 _ _ a2)).trans a2, (hk9 _ (hn9 _ _ a3)).trans a3, (hk9 _ (hn9 _ _ a4)).trans a4, (hk9 _ (hn9 _ _ a5)).trans a5, (hk9 _ (hn9 _ _ a6)).trans a6⟩
        have hPA9 : PA Γ f4 r pb2 pz2 pd2 pn2 pe2 ph2 pg2 := by
          obtain ⟨a0, a1, a2, a3, a4, a5, a6⟩ := hPA3
          exact ⟨(hk9 _ (hn9 _ _ a0)).trans a0, (hk9 _ (hn9 _ _ a1)).trans a1, (hk9 _ (hn9 _ _ a2)).trans a2, (hk9 _ (hn9 _ _ a3)).trans a3, (hk9 _ (hn9 _ _ a4)).trans a4, (hk9 _ (hn9 _ _ a5)).trans a5, (hk9 _ (hn9 _ _ a6)).trans a6⟩
        have hK9 : hm_k (wS m0 r) f f4 := (hg2.tr (hfr3.k.mono (fun q hq => kS_w hq))).tr (hk9.k.mono (fun q hq => Or.inl hq))
        exact hm_iret hx hb hr hlocks hS hH (⟨congrArg (fun q => some (Value.int q)) (by unfold mxI; rw [if_neg (Int32.not_lt.mpr c7)]), ⟨dz2, gd2, pb2, pz2, pd2, pn2, pe2, ph2, pg2, h5, hKA9, hPA9⟩, hK9⟩) (Nat.le_of_ble_eq_true rfl) (Nat.le_of_ble_eq_true rfl) dX8_priceOf_252
      · refine lv_iconst (v := 1) hx hb dX8_priceOf_244 (by decide) ?_
        refine lv_goto (tgt := 252) hx hb dX8_priceOf_245 (by decide) ?_
        have hk9 : hm_fr (fun q => q = m0) f3 f4 := by rw [ef4, ef2]; exact ((hm_fr.rf (S := fun q => q = m0)).up rfl).up rfl
        have hn9 : ∀ b x, f3 b = some (.inl x) → ¬ b = m0 := fun b x hb => hm_ne hb hmm (fun q => by cases q)
        have hKA9 : KA Γ f4 r (mixE S.1 (trM true rr d t z (S.1, S.2.1, S.2.2.1, S.2.2.2.1, 0)).1 64) := by
          obtain ⟨a0, a1, a2, a3, a4, a5, a6⟩ := hKA3
          exact ⟨(hk9 _ (hn9 _ _ a0)).trans a0, (hk9 _ (hn9 _ _ a1)).trans a1, (hk9 _ (hn9 _ _ a2)).trans a2, (hk9 _ (hn9 _ _ a3)).trans a3, (hk9 _ (hn9 _ _ a4)).trans a4, (hk9 _ (hn9 _ _ a5)).trans a5, (hk9 _ (hn9 _ _ a6)).trans a6⟩
        have hPA9 : PA Γ f4 r pb2 pz2 pd2 pn2 pe2 ph2 pg2 := by
          obtain ⟨a0, a1, a2, a3, a4, a5, a6⟩ := hPA3
          exact ⟨(hk9 _ (hn9 _ _ a0)).trans a0, (hk9 _ (hn9 _ _ a1)).trans a1, (hk9 _ (hn9 _ _ a2)).trans a2, (hk9 _ (hn9 _ _ a3)).trans a3, (hk9 _ (hn9 _ _ a4)).trans a4, (hk9 _ (hn9 _ _ a5)).trans a5, (hk9 _ (hn9 _ _ a6)).trans a6⟩
        have hK9 : hm_k (wS m0 r) f f4 := (hg2.tr (hfr3.k.mono (fun q hq => kS_w hq))).tr (hk9.k.mono (fun q hq => Or.inl hq))
        exact hm_iret hx hb hr hlocks hS hH (⟨congrArg (fun q => some (Value.int q)) (by unfold mxI; rw [if_pos (Int32.not_le.mp c7)]), ⟨dz2, gd2, pb2, pz2, pd2, pn2, pe2, ph2, pg2, h5, hKA9, hPA9⟩, hK9⟩) (Nat.le_of_ble_eq_true rfl) (Nat.le_of_ble_eq_true rfl) dX8_priceOf_252
    | succ k_ ih =>
      intro i f3 hin_ hKA3 hfr3 hm3 H locs hH hS ls hl
      have hi : i < 64 := by omega
      have hmm := hm3.trans hm2
      obtain ⟨a0, a1, a2, a3, a4, a5, a6⟩ := id hKA3
      have hd0 : f3 qa0 = some (eJ Γ 64 (fun j => (S.1 j).1)) := (hfr3 _ (fun z => hw_qa0 (kS_w z))).trans hc2_0
      have hd1 : f3 qa1 = some (eI Γ 64 (fun j => (S.1 j).2.1)) := (hfr3 _ (fun z => hw_qa1 (kS_w z))).trans hc2_1
      have hd2 : f3 qa2 = some (eI Γ 64 (fun j => (S.1 j).2.2.1)) := (hfr3 _ (fun z => hw_qa2 (kS_w z))).trans hc2_2
      have hd3 : f3 qa3 = some (eI Γ 64 (fun j => (S.1 j).2.2.2.1)) := (hfr3 _ (fun z => hw_qa3 (kS_w z))).trans hc2_3
      have hd4 : f3 qa4 = some (eI Γ 64 (fun j => (S.1 j).2.2.2.2.1)) := (hfr3 _ (fun z => hw_qa4 (kS_w z))).trans hc2_4
      have hd5 : f3 qa5 = some (eI Γ 64 (fun j => (S.1 j).2.2.2.2.2.1)) := (hfr3 _ (fun z => hw_qa5 (kS_w z))).trans hc2_5
      have hd6 : f3 qa6 = some (eI Γ 64 (fun j => (S.1 j).2.2.2.2.2.2)) := (hfr3 _ (fun z => hw_qa6 (kS_w z))).trans hc2_6
      refine lv_iload hx hb dX8_priceOf_123 (lv_at hl 0 rfl) ?_
      refine lv_bipush (v := 64) hx hb dX8_priceOf_125 (by decide) ?_
      refine lv_icmp_ge (tgt := 219) hx hb dX8_priceOf_127 (by decide) (fun c1 => absurd c1 (nI_ge (a := i) (b := 64) hi (by decide))) (fun _ => ?_)
      refine lv_aload_n hx hb dX8_priceOf_130 rfl (lv_at hl 11 rfl) ?_
      refine gf_X8_54 hx hb hts hown hK hH hmm rfl dX8_priceOf_131 ?_
      refine lv_iload hx hb dX8_priceOf_134 (lv_at hl 0 rfl) ?_
      refine lv_aload_n hx hb dX8_priceOf_136 rfl (lv_at hl 4 rfl) ?_
      refine lv_iload hx hb dX8_priceOf_137 (lv_at hl 0 rfl) ?_
      refine hm_lald hx hb hK hH hd0 (vp_in_nI hi (by decide)) dX8_priceOf_139 ?_
      refine lv_topl (fun v2 ev2 => ?_)
      replace ev2 : v2 = (S.1 i).1 := ev2.trans (by show (S.1 (nI i).toNatClampNeg).1 = _; rw [nI_clamp (by omega)])
      subst ev2
      refine hm_last hx hb hK hO hS hH a0 (vp_in_nI hi (by decide)) dX8_priceOf_140 (fun H locs hH hS => ?_)
      rw [nI_clamp (n := i) (by omega)] at hH
      obtain ⟨f3, ef3⟩ : ∃ zz_, zz_ = hm_up f3 ((r 14)) (eJ Γ 64 (vp_updL (fun j => (mixE S.1 (trM true rr d t z (S.1, S.2.1, S.2.2.1, S.2.2.2.1, 0)).1 i j).1) i ((S.1 i).1))) := ⟨_, rfl⟩
      have hH : hm_H Γ f3 H := by rw [ef3]; exact hH
      have h4 : f3 ((r 14)) = some (eJ Γ 64 (vp_updL (fun j => (mixE S.1 (trM true rr d t z (S.1, S.2.1, S.2.2.1, S.2.2.2.1, 0)).1 i j).1) i ((S.1 i).1))) := by rw [ef3]; exact hm_us
      have h5 : f3 m0 = some (eM r mth mpl mga mtr (nI ((trM true rr d t z (S.1, S.2.1, S.2.2.1, S.2.2.2.1, 0))).2.1) (nI rr) (((trM true rr d t z (S.1, S.2.1, S.2.2.1, S.2.2.2.1, 0))).2.2.1) mli dz2 gd2 (((trM true rr d t z (S.1, S.2.1, S.2.2.1, S.2.2.2.1, 0))).2.2.2.1) (((trM true rr d t z (S.1, S.2.1, S.2.2.1, S.2.2.2.1, 0))).2.2.2.2) ((wp d t z).2) msh msm mso msp mrf) := by rw [ef3]; exact (hm_un (hm_ne hmm a0 (fun q => by cases q))).trans hmm
      have h6 : f3 qa0 = some (eJ Γ 64 (fun j => (S.1 j).1)) := by rw [ef3]; exact (hm_un (fun z => hw_qa0 (Or.inr ⟨14, by decide, by decide, z⟩))).trans hd0
      have h7 : f3 ((r 15)) = some (eI Γ 64 (fun j => (mixE S.1 (trM true rr d t z (S.1, S.2.1, S.2.2.1, S.2.2.2.1, 0)).1 i j).2.1)) := by rw [ef3]; exact (hm_un (hrI 15 14 (by decide) (by decide) (by decide))).trans a1
      have h8 : f3 qa1 = some (eI Γ 64 (fun j => (S.1 j).2.1)) := by rw [ef3]; exact (hm_un (fun z => hw_qa1 (Or.inr ⟨14, by decide, by decide, z⟩))).trans hd1
      have h9 : f3 ((r 16)) = some (eI Γ 64 (fun j => (mixE S.1 (trM true rr d t z (S.1, S.2.1, S.2.2.1, S.2.2.2.1, 0)).1 i j).2.2.1)) := by rw [ef3]; exact (hm_un (hrI 16 14 (by decide) (by decide) (by decide))).trans a2
      have h10 : f3 qa2 = some (eI Γ 64 (fun j => (S.1 j).2.2.1)) := by rw [ef3]; exact (hm_un (fun z => hw_qa2 (Or.inr ⟨14, by decide, by decide, z⟩))).trans hd2
      have h11 : f3 ((r 17)) = some (eI Γ 64 (fun j => (mixE S.1 (trM true rr d t z (S.1, S.2.1, S.2.2.1, S.2.2.2.1, 0)).1 i j).2.2.2.1)) := by rw [ef3]; exact (hm_un (hrI 17 14 (by decide) (by decide) (by decide))).trans a3
      have h12 : f3 qa3 = some (eI Γ 64 (fun j => (S.1 j).2.2.2.1)) := by rw [ef3]; exact (hm_un (fun z => hw_qa3 (Or.inr ⟨14, by decide, by decide, z⟩))).trans hd3
      have h13 : f3 ((r 18)) = some (eI Γ 64 (fun j => (mixE S.1 (trM true rr d t z (S.1, S.2.1, S.2.2.1, S.2.2.2.1, 0)).1 i j).2.2.2.2.1)) := by rw [ef3]; exact (hm_un (hrI 18 14 (by decide) (by decide) (by decide))).trans a4
      have h14 : f3 qa4 = some (eI Γ 64 (fun j => (S.1 j).2.2.2.2.1)) := by rw [ef3]; exact (hm_un (fun z => hw_qa4 (Or.inr ⟨14, by decide, by decide, z⟩))).trans hd4
      have h15 : f3 ((r 19)) = some (eI Γ 64 (fun j => (mixE S.1 (trM true rr d t z (S.1, S.2.1, S.2.2.1, S.2.2.2.1, 0)).1 i j).2.2.2.2.2.1)) := by rw [ef3]; exact (hm_un (hrI 19 14 (by decide) (by decide) (by decide))).trans a5
      have h16 : f3 qa5 = some (eI Γ 64 (fun j => (S.1 j).2.2.2.2.2.1)) := by rw [ef3]; exact (hm_un (fun z => hw_qa5 (Or.inr ⟨14, by decide, by decide, z⟩))).trans hd5
      have h17 : f3 ((r 20)) = some (eI Γ 64 (fun j => (mixE S.1 (trM true rr d t z (S.1, S.2.1, S.2.2.1, S.2.2.2.1, 0)).1 i j).2.2.2.2.2.2)) := by rw [ef3]; exact (hm_un (hrI 20 14 (by decide) (by decide) (by decide))).trans a6
      have h18 : f3 qa6 = some (eI Γ 64 (fun j => (S.1 j).2.2.2.2.2.2)) := by rw [ef3]; exact (hm_un (fun z => hw_qa6 (Or.inr ⟨14, by decide, by decide, z⟩))).trans hd6
      refine lv_aload_n hx hb dX8_priceOf_141 rfl (lv_at hl 11 rfl) ?_
      refine gf_X8_57 hx hb hts hown hK hH h5 rfl dX8_priceOf_142 ?_
      refine lv_iload hx hb dX8_priceOf_145 (lv_at hl 0 rfl) ?_
      refine lv_aload hx hb dX8_priceOf_147 (lv_at hl 5 rfl) ?_
      refine lv_iload hx hb dX8_priceOf_149 (lv_at hl 0 rfl) ?_
      refine hm_iald hx hb hK hH h8 (vp_in_nI hi (by decide)) dX8_priceOf_151 ?_
      refine lv_topi (fun v19 ev19 => ?_)
      replace ev19 : v19 = (S.1 i).2.1 := ev19.trans (by show (S.1 (nI i).toNatClampNeg).2.1 = _; rw [nI_clamp (by omega)])
      subst ev19
      refine hm_iast hx hb hK hO hS hH h7 (vp_in_nI hi (by decide)) dX8_priceOf_152 (fun H locs hH hS => ?_)
      rw [nI_clamp (n := i) (by omega)] at hH
      obtain ⟨f20, ef20⟩ : ∃ zz_, zz_ = hm_up f3 ((r 15)) (eI Γ 64 (upd (fun j => (mixE S.1 (trM true rr d t z (S.1, S.2.1, S.2.2.1, S.2.2.2.1, 0)).1 i j).2.1) i ((S.1 i).2.1))) := ⟨_, rfl⟩
      have hH : hm_H Γ f20 H := by rw [ef20]; exact hH
      have h21 : f20 ((r 15)) = some (eI Γ 64 (upd (fun j => (mixE S.1 (trM true rr d t z (S.1, S.2.1, S.2.2.1, S.2.2.2.1, 0)).1 i j).2.1) i ((S.1 i).2.1))) := by rw [ef20]; exact hm_us
      have h22 : f20 m0 = some (eM r mth mpl mga mtr (nI ((trM true rr d t z (S.1, S.2.1, S.2.2.1, S.2.2.2.1, 0))).2.1) (nI rr) (((trM true rr d t z (S.1, S.2.1, S.2.2.1, S.2.2.2.1, 0))).2.2.1) mli dz2 gd2 (((trM true rr d t z (S.1, S.2.1, S.2.2.1, S.2.2.2.1, 0))).2.2.2.1) (((trM true rr d t z (S.1, S.2.1, S.2.2.1, S.2.2.2.1, 0))).2.2.2.2) ((wp d t z).2) msh msm mso msp mrf) := by rw [ef20]; exact (hm_un (hm_ne h5 h7 (fun q => by cases q))).trans h5
      have h23 : f20 ((r 14)) = some (eJ Γ 64 (vp_updL (fun j => (mixE S.1 (trM true rr d t z (S.1, S.2.1, S.2.2.1, S.2.2.2.1, 0)).1 i j).1) i ((S.1 i).1))) := by rw [ef20]; exact (hm_un (hrI 14 15 (by decide) (by decide) (by decide))).trans h4
      have h24 : f20 qa0 = some (eJ Γ 64 (fun j => (S.1 j).1)) := by rw [ef20]; exact (hm_un (fun z => hw_qa0 (Or.inr ⟨15, by decide, by decide, z⟩))).trans h6
      have h25 : f20 qa1 = some (eI Γ 64 (fun j => (S.1 j).2.1)) := by rw [ef20]; exact (hm_un (fun z => hw_qa1 (Or.inr ⟨15, by decide, by decide, z⟩))).trans h8
      have h26 : f20 ((r 16)) = some (eI Γ 64 (fun j => (mixE S.1 (trM true rr d t z (S.1, S.2.1, S.2.2.1, S.2.2.2.1, 0)).1 i j).2.2.1)) := by rw [ef20]; exact (hm_un (hrI 16 15 (by decide) (by decide) (by decide))).trans h9
      have h27 : f20 qa2 = some (eI Γ 64 (fun j => (S.1 j).2.2.1)) := by rw [ef20]; exact (hm_un (fun z => hw_qa2 (Or.inr ⟨15, by decide, by decide, z⟩))).trans h10
      have h28 : f20 ((r 17)) = some (eI Γ 64 (fun j => (mixE S.1 (trM true rr d t z (S.1, S.2.1, S.2.2.1, S.2.2.2.1, 0)).1 i j).2.2.2.1)) := by rw [ef20]; exact (hm_un (hrI 17 15 (by decide) (by decide) (by decide))).trans h11
      have h29 : f20 qa3 = some (eI Γ 64 (fun j => (S.1 j).2.2.2.1)) := by rw [ef20]; exact (hm_un (fun z => hw_qa3 (Or.inr ⟨15, by decide, by decide, z⟩))).trans h12
      have h30 : f20 ((r 18)) = some (eI Γ 64 (fun j => (mixE S.1 (trM true rr d t z (S.1, S.2.1, S.2.2.1, S.2.2.2.1, 0)).1 i j).2.2.2.2.1)) := by rw [ef20]; exact (hm_un (hrI 18 15 (by decide) (by decide) (by decide))).trans h13
      have h31 : f20 qa4 = some (eI Γ 64 (fun j => (S.1 j).2.2.2.2.1)) := by rw [ef20]; exact (hm_un (fun z => hw_qa4 (Or.inr ⟨15, by decide, by decide, z⟩))).trans h14
      have h32 : f20 ((r 19)) = some (eI Γ 64 (fun j => (mixE S.1 (trM true rr d t z (S.1, S.2.1, S.2.2.1, S.2.2.2.1, 0)).1 i j).2.2.2.2.2.1)) := by rw [ef20]; exact (hm_un (hrI 19 15 (by decide) (by decide) (by decide))).trans h15
      have h33 : f20 qa5 = some (eI Γ 64 (fun j => (S.1 j).2.2.2.2.2.1)) := by rw [ef20]; exact (hm_un (fun z => hw_qa5 (Or.inr ⟨15, by decide, by decide, z⟩))).trans h16
      have h34 : f20 ((r 20)) = some (eI Γ 64 (fun j => (mixE S.1 (trM true rr d t z (S.1, S.2.1, S.2.2.1, S.2.2.2.1, 0)).1 i j).2.2.2.2.2.2)) := by rw [ef20]; exact (hm_un (hrI 20 15 (by decide) (by decide) (by decide))).trans h17
      have h35 : f20 qa6 = some (eI Γ 64 (fun j => (S.1 j).2.2.2.2.2.2)) := by rw [ef20]; exact (hm_un (fun z => hw_qa6 (Or.inr ⟨15, by decide, by decide, z⟩))).trans h18
      refine lv_aload_n hx hb dX8_priceOf_153 rfl (lv_at hl 11 rfl) ?_
      refine gf_X8_60 hx hb hts hown hK hH h22 rfl dX8_priceOf_154 ?_
      refine lv_iload hx hb dX8_priceOf_157 (lv_at hl 0 rfl) ?_
      refine lv_aload hx hb dX8_priceOf_159 (lv_at hl 6 rfl) ?_
      refine lv_iload hx hb dX8_priceOf_161 (lv_at hl 0 rfl) ?_
      refine hm_iald hx hb hK hH h27 (vp_in_nI hi (by decide)) dX8_priceOf_163 ?_
      refine lv_topi (fun v36 ev36 => ?_)
      replace ev36 : v36 = (S.1 i).2.2.1 := ev36.trans (by show (S.1 (nI i).toNatClampNeg).2.2.1 = _; rw [nI_clamp (by omega)])
      subst ev36
      refine hm_iast hx hb hK hO hS hH h26 (vp_in_nI hi (by decide)) dX8_priceOf_164 (fun H locs hH hS => ?_)
      rw [nI_clamp (n := i) (by omega)] at hH
      obtain ⟨f37, ef37⟩ : ∃ zz_, zz_ = hm_up f20 ((r 16)) (eI Γ 64 (upd (fun j => (mixE S.1 (trM true rr d t z (S.1, S.2.1, S.2.2.1, S.2.2.2.1, 0)).1 i j).2.2.1) i ((S.1 i).2.2.1))) := ⟨_, rfl⟩
      have hH : hm_H Γ f37 H := by rw [ef37]; exact hH
      have h38 : f37 ((r 16)) = some (eI Γ 64 (upd (fun j => (mixE S.1 (trM true rr d t z (S.1, S.2.1, S.2.2.1, S.2.2.2.1, 0)).1 i j).2.2.1) i ((S.1 i).2.2.1))) := by rw [ef37]; exact hm_us
      have h39 : f37 m0 = some (eM r mth mpl mga mtr (nI ((trM true rr d t z (S.1, S.2.1, S.2.2.1, S.2.2.2.1, 0))).2.1) (nI rr) (((trM true rr d t z (S.1, S.2.1, S.2.2.1, S.2.2.2.1, 0))).2.2.1) mli dz2 gd2 (((trM true rr d t z (S.1, S.2.1, S.2.2.1, S.2.2.2.1, 0))).2.2.2.1) (((trM true rr d t z (S.1, S.2.1, S.2.2.1, S.2.2.2.1, 0))).2.2.2.2) ((wp d t z).2) msh msm mso msp mrf) := by rw [ef37]; exact (hm_un (hm_ne h22 h26 (fun q => by cases q))).trans h22
      have h40 : f37 ((r 14)) = some (eJ Γ 64 (vp_updL (fun j => (mixE S.1 (trM true rr d t z (S.1, S.2.1, S.2.2.1, S.2.2.2.1, 0)).1 i j).1) i ((S.1 i).1))) := by rw [ef37]; exact (hm_un (hrI 14 16 (by decide) (by decide) (by decide))).trans h23
      have h41 : f37 qa0 = some (eJ Γ 64 (fun j => (S.1 j).1)) := by rw [ef37]; exact (hm_un (fun z => hw_qa0 (Or.inr ⟨16, by decide, by decide, z⟩))).trans h24
      have h42 : f37 ((r 15)) = some (eI Γ 64 (upd (fun j => (mixE S.1 (trM true rr d t z (S.1, S.2.1, S.2.2.1, S.2.2.2.1, 0)).1 i j).2.1) i ((S.1 i).2.1))) := by rw [ef37]; exact (hm_un (hrI 15 16 (by decide) (by decide) (by decide))).trans h21
      have h43 : f37 qa1 = some (eI Γ 64 (fun j => (S.1 j).2.1)) := by rw [ef37]; exact (hm_un (fun z => hw_qa1 (Or.inr ⟨16, by decide, by decide, z⟩))).trans h25
      have h44 : f37 qa2 = some (eI Γ 64 (fun j => (S.1 j).2.2.1)) := by rw [ef37]; exact (hm_un (fun z => hw_qa2 (Or.inr ⟨16, by decide, by decide, z⟩))).trans h27
      have h45 : f37 ((r 17)) = some (eI Γ 64 (fun j => (mixE S.1 (trM true rr d t z (S.1, S.2.1, S.2.2.1, S.2.2.2.1, 0)).1 i j).2.2.2.1)) := by rw [ef37]; exact (hm_un (hrI 17 16 (by decide) (by decide) (by decide))).trans h28
      have h46 : f37 qa3 = some (eI Γ 64 (fun j => (S.1 j).2.2.2.1)) := by rw [ef37]; exact (hm_un (fun z => hw_qa3 (Or.inr ⟨16, by decide, by decide, z⟩))).trans h29
      have h47 : f37 ((r 18)) = some (eI Γ 64 (fun j => (mixE S.1 (trM true rr d t z (S.1, S.2.1, S.2.2.1, S.2.2.2.1, 0)).1 i j).2.2.2.2.1)) := by rw [ef37]; exact (hm_un (hrI 18 16 (by decide) (by decide) (by decide))).trans h30
      have h48 : f37 qa4 = some (eI Γ 64 (fun j => (S.1 j).2.2.2.2.1)) := by rw [ef37]; exact (hm_un (fun z => hw_qa4 (Or.inr ⟨16, by decide, by decide, z⟩))).trans h31
      have h49 : f37 ((r 19)) = some (eI Γ 64 (fun j => (mixE S.1 (trM true rr d t z (S.1, S.2.1, S.2.2.1, S.2.2.2.1, 0)).1 i j).2.2.2.2.2.1)) := by rw [ef37]; exact (hm_un (hrI 19 16 (by decide) (by decide) (by decide))).trans h32
      have h50 : f37 qa5 = some (eI Γ 64 (fun j => (S.1 j).2.2.2.2.2.1)) := by rw [ef37]; exact (hm_un (fun z => hw_qa5 (Or.inr ⟨16, by decide, by decide, z⟩))).trans h33
      have h51 : f37 ((r 20)) = some (eI Γ 64 (fun j => (mixE S.1 (trM true rr d t z (S.1, S.2.1, S.2.2.1, S.2.2.2.1, 0)).1 i j).2.2.2.2.2.2)) := by rw [ef37]; exact (hm_un (hrI 20 16 (by decide) (by decide) (by decide))).trans h34
      have h52 : f37 qa6 = some (eI Γ 64 (fun j => (S.1 j).2.2.2.2.2.2)) := by rw [ef37]; exact (hm_un (fun z => hw_qa6 (Or.inr ⟨16, by decide, by decide, z⟩))).trans h35
      refine lv_aload_n hx hb dX8_priceOf_165 rfl (lv_at hl 11 rfl) ?_
      refine gf_X8_63 hx hb hts hown hK hH h39 rfl dX8_priceOf_166 ?_
      refine lv_iload hx hb dX8_priceOf_169 (lv_at hl 0 rfl) ?_
      refine lv_aload hx hb dX8_priceOf_171 (lv_at hl 7 rfl) ?_
      refine lv_iload hx hb dX8_priceOf_173 (lv_at hl 0 rfl) ?_
      refine hm_iald hx hb hK hH h46 (vp_in_nI hi (by decide)) dX8_priceOf_175 ?_
      refine lv_topi (fun v53 ev53 => ?_)
      replace ev53 : v53 = (S.1 i).2.2.2.1 := ev53.trans (by show (S.1 (nI i).toNatClampNeg).2.2.2.1 = _; rw [nI_clamp (by omega)])
      subst ev53
      refine hm_iast hx hb hK hO hS hH h45 (vp_in_nI hi (by decide)) dX8_priceOf_176 (fun H locs hH hS => ?_)
      rw [nI_clamp (n := i) (by omega)] at hH
      obtain ⟨f54, ef54⟩ : ∃ zz_, zz_ = hm_up f37 ((r 17)) (eI Γ 64 (upd (fun j => (mixE S.1 (trM true rr d t z (S.1, S.2.1, S.2.2.1, S.2.2.2.1, 0)).1 i j).2.2.2.1) i ((S.1 i).2.2.2.1))) := ⟨_, rfl⟩
      have hH : hm_H Γ f54 H := by rw [ef54]; exact hH
      have h55 : f54 ((r 17)) = some (eI Γ 64 (upd (fun j => (mixE S.1 (trM true rr d t z (S.1, S.2.1, S.2.2.1, S.2.2.2.1, 0)).1 i j).2.2.2.1) i ((S.1 i).2.2.2.1))) := by rw [ef54]; exact hm_us
      have h56 : f54 m0 = some (eM r mth mpl mga mtr (nI ((trM true rr d t z (S.1, S.2.1, S.2.2.1, S.2.2.2.1, 0))).2.1) (nI rr) (((trM true rr d t z (S.1, S.2.1, S.2.2.1, S.2.2.2.1, 0))).2.2.1) mli dz2 gd2 (((trM true rr d t z (S.1, S.2.1, S.2.2.1, S.2.2.2.1, 0))).2.2.2.1) (((trM true rr d t z (S.1, S.2.1, S.2.2.1, S.2.2.2.1, 0))).2.2.2.2) ((wp d t z).2) msh msm mso msp mrf) := by rw [ef54]; exact (hm_un (hm_ne h39 h45 (fun q => by cases q))).trans h39
      have h57 : f54 ((r 14)) = some (eJ Γ 64 (vp_updL (fun j => (mixE S.1 (trM true rr d t z (S.1, S.2.1, S.2.2.1, S.2.2.2.1, 0)).1 i j).1) i ((S.1 i).1))) := by rw [ef54]; exact (hm_un (hrI 14 17 (by decide) (by decide) (by decide))).trans h40
      have h58 : f54 qa0 = some (eJ Γ 64 (fun j => (S.1 j).1)) := by rw [ef54]; exact (hm_un (fun z => hw_qa0 (Or.inr ⟨17, by decide, by decide, z⟩))).trans h41
      have h59 : f54 ((r 15)) = some (eI Γ 64 (upd (fun j => (mixE S.1 (trM true rr d t z (S.1, S.2.1, S.2.2.1, S.2.2.2.1, 0)).1 i j).2.1) i ((S.1 i).2.1))) := by rw [ef54]; exact (hm_un (hrI 15 17 (by decide) (by decide) (by decide))).trans h42
      have h60 : f54 qa1 = some (eI Γ 64 (fun j => (S.1 j).2.1)) := by rw [ef54]; exact (hm_un (fun z => hw_qa1 (Or.inr ⟨17, by decide, by decide, z⟩))).trans h43
      have h61 : f54 ((r 16)) = some (eI Γ 64 (upd (fun j => (mixE S.1 (trM true rr d t z (S.1, S.2.1, S.2.2.1, S.2.2.2.1, 0)).1 i j).2.2.1) i ((S.1 i).2.2.1))) := by rw [ef54]; exact (hm_un (hrI 16 17 (by decide) (by decide) (by decide))).trans h38
      have h62 : f54 qa2 = some (eI Γ 64 (fun j => (S.1 j).2.2.1)) := by rw [ef54]; exact (hm_un (fun z => hw_qa2 (Or.inr ⟨17, by decide, by decide, z⟩))).trans h44
      have h63 : f54 qa3 = some (eI Γ 64 (fun j => (S.1 j).2.2.2.1)) := by rw [ef54]; exact (hm_un (fun z => hw_qa3 (Or.inr ⟨17, by decide, by decide, z⟩))).trans h46
      have h64 : f54 ((r 18)) = some (eI Γ 64 (fun j => (mixE S.1 (trM true rr d t z (S.1, S.2.1, S.2.2.1, S.2.2.2.1, 0)).1 i j).2.2.2.2.1)) := by rw [ef54]; exact (hm_un (hrI 18 17 (by decide) (by decide) (by decide))).trans h47
      have h65 : f54 qa4 = some (eI Γ 64 (fun j => (S.1 j).2.2.2.2.1)) := by rw [ef54]; exact (hm_un (fun z => hw_qa4 (Or.inr ⟨17, by decide, by decide, z⟩))).trans h48
      have h66 : f54 ((r 19)) = some (eI Γ 64 (fun j => (mixE S.1 (trM true rr d t z (S.1, S.2.1, S.2.2.1, S.2.2.2.1, 0)).1 i j).2.2.2.2.2.1)) := by rw [ef54]; exact (hm_un (hrI 19 17 (by decide) (by decide) (by decide))).trans h49
      have h67 : f54 qa5 = some (eI Γ 64 (fun j => (S.1 j).2.2.2.2.2.1)) := by rw [ef54]; exact (hm_un (fun z => hw_qa5 (Or.inr ⟨17, by decide, by decide, z⟩))).trans h50
      have h68 : f54 ((r 20)) = some (eI Γ 64 (fun j => (mixE S.1 (trM true rr d t z (S.1, S.2.1, S.2.2.1, S.2.2.2.1, 0)).1 i j).2.2.2.2.2.2)) := by rw [ef54]; exact (hm_un (hrI 20 17 (by decide) (by decide) (by decide))).trans h51
      have h69 : f54 qa6 = some (eI Γ 64 (fun j => (S.1 j).2.2.2.2.2.2)) := by rw [ef54]; exact (hm_un (fun z => hw_qa6 (Or.inr ⟨17, by decide, by decide, z⟩))).trans h52
      refine lv_aload_n hx hb dX8_priceOf_177 rfl (lv_at hl 11 rfl) ?_
      refine gf_X8_66 hx hb hts hown hK hH h56 rfl dX8_priceOf_178 ?_
      refine lv_iload hx hb dX8_priceOf_181 (lv_at hl 0 rfl) ?_
      refine lv_aload hx hb dX8_priceOf_183 (lv_at hl 8 rfl) ?_
      refine lv_iload hx hb dX8_priceOf_185 (lv_at hl 0 rfl) ?_
      refine hm_iald hx hb hK hH h65 (vp_in_nI hi (by decide)) dX8_priceOf_187 ?_
      refine lv_topi (fun v70 ev70 => ?_)
      replace ev70 : v70 = (S.1 i).2.2.2.2.1 := ev70.trans (by show (S.1 (nI i).toNatClampNeg).2.2.2.2.1 = _; rw [nI_clamp (by omega)])
      subst ev70
      refine hm_iast hx hb hK hO hS hH h64 (vp_in_nI hi (by decide)) dX8_priceOf_188 (fun H locs hH hS => ?_)
      rw [nI_clamp (n := i) (by omega)] at hH
      obtain ⟨f71, ef71⟩ : ∃ zz_, zz_ = hm_up f54 ((r 18)) (eI Γ 64 (upd (fun j => (mixE S.1 (trM true rr d t z (S.1, S.2.1, S.2.2.1, S.2.2.2.1, 0)).1 i j).2.2.2.2.1) i ((S.1 i).2.2.2.2.1))) := ⟨_, rfl⟩
      have hH : hm_H Γ f71 H := by rw [ef71]; exact hH
      have h72 : f71 ((r 18)) = some (eI Γ 64 (upd (fun j => (mixE S.1 (trM true rr d t z (S.1, S.2.1, S.2.2.1, S.2.2.2.1, 0)).1 i j).2.2.2.2.1) i ((S.1 i).2.2.2.2.1))) := by rw [ef71]; exact hm_us
      have h73 : f71 m0 = some (eM r mth mpl mga mtr (nI ((trM true rr d t z (S.1, S.2.1, S.2.2.1, S.2.2.2.1, 0))).2.1) (nI rr) (((trM true rr d t z (S.1, S.2.1, S.2.2.1, S.2.2.2.1, 0))).2.2.1) mli dz2 gd2 (((trM true rr d t z (S.1, S.2.1, S.2.2.1, S.2.2.2.1, 0))).2.2.2.1) (((trM true rr d t z (S.1, S.2.1, S.2.2.1, S.2.2.2.1, 0))).2.2.2.2) ((wp d t z).2) msh msm mso msp mrf) := by rw [ef71]; exact (hm_un (hm_ne h56 h64 (fun q => by cases q))).trans h56
      have h74 : f71 ((r 14)) = some (eJ Γ 64 (vp_updL (fun j => (mixE S.1 (trM true rr d t z (S.1, S.2.1, S.2.2.1, S.2.2.2.1, 0)).1 i j).1) i ((S.1 i).1))) := by rw [ef71]; exact (hm_un (hrI 14 18 (by decide) (by decide) (by decide))).trans h57
      have h75 : f71 qa0 = some (eJ Γ 64 (fun j => (S.1 j).1)) := by rw [ef71]; exact (hm_un (fun z => hw_qa0 (Or.inr ⟨18, by decide, by decide, z⟩))).trans h58
      have h76 : f71 ((r 15)) = some (eI Γ 64 (upd (fun j => (mixE S.1 (trM true rr d t z (S.1, S.2.1, S.2.2.1, S.2.2.2.1, 0)).1 i j).2.1) i ((S.1 i).2.1))) := by rw [ef71]; exact (hm_un (hrI 15 18 (by decide) (by decide) (by decide))).trans h59
      have h77 : f71 qa1 = some (eI Γ 64 (fun j => (S.1 j).2.1)) := by rw [ef71]; exact (hm_un (fun z => hw_qa1 (Or.inr ⟨18, by decide, by decide, z⟩))).trans h60
      have h78 : f71 ((r 16)) = some (eI Γ 64 (upd (fun j => (mixE S.1 (trM true rr d t z (S.1, S.2.1, S.2.2.1, S.2.2.2.1, 0)).1 i j).2.2.1) i ((S.1 i).2.2.1))) := by rw [ef71]; exact (hm_un (hrI 16 18 (by decide) (by decide) (by decide))).trans h61
      have h79 : f71 qa2 = some (eI Γ 64 (fun j => (S.1 j).2.2.1)) := by rw [ef71]; exact (hm_un (fun z => hw_qa2 (Or.inr ⟨18, by decide, by decide, z⟩))).trans h62
      have h80 : f71 ((r 17)) = some (eI Γ 64 (upd (fun j => (mixE S.1 (trM true rr d t z (S.1, S.2.1, S.2.2.1, S.2.2.2.1, 0)).1 i j).2.2.2.1) i ((S.1 i).2.2.2.1))) := by rw [ef71]; exact (hm_un (hrI 17 18 (by decide) (by decide) (by decide))).trans h55
      have h81 : f71 qa3 = some (eI Γ 64 (fun j => (S.1 j).2.2.2.1)) := by rw [ef71]; exact (hm_un (fun z => hw_qa3 (Or.inr ⟨18, by decide, by decide, z⟩))).trans h63
      have h82 : f71 qa4 = some (eI Γ 64 (fun j => (S.1 j).2.2.2.2.1)) := by rw [ef71]; exact (hm_un (fun z => hw_qa4 (Or.inr ⟨18, by decide, by decide, z⟩))).trans h65
      have h83 : f71 ((r 19)) = some (eI Γ 64 (fun j => (mixE S.1 (trM true rr d t z (S.1, S.2.1, S.2.2.1, S.2.2.2.1, 0)).1 i j).2.2.2.2.2.1)) := by rw [ef71]; exact (hm_un (hrI 19 18 (by decide) (by decide) (by decide))).trans h66
      have h84 : f71 qa5 = some (eI Γ 64 (fun j => (S.1 j).2.2.2.2.2.1)) := by rw [ef71]; exact (hm_un (fun z => hw_qa5 (Or.inr ⟨18, by decide, by decide, z⟩))).trans h67
      have h85 : f71 ((r 20)) = some (eI Γ 64 (fun j => (mixE S.1 (trM true rr d t z (S.1, S.2.1, S.2.2.1, S.2.2.2.1, 0)).1 i j).2.2.2.2.2.2)) := by rw [ef71]; exact (hm_un (hrI 20 18 (by decide) (by decide) (by decide))).trans h68
      have h86 : f71 qa6 = some (eI Γ 64 (fun j => (S.1 j).2.2.2.2.2.2)) := by rw [ef71]; exact (hm_un (fun z => hw_qa6 (Or.inr ⟨18, by decide, by decide, z⟩))).trans h69
      refine lv_aload_n hx hb dX8_priceOf_189 rfl (lv_at hl 11 rfl) ?_
      refine gf_X8_69 hx hb hts hown hK hH h73 rfl dX8_priceOf_190 ?_
      refine lv_iload hx hb dX8_priceOf_193 (lv_at hl 0 rfl) ?_
      refine lv_aload hx hb dX8_priceOf_195 (lv_at hl 9 rfl) ?_
      refine lv_iload hx hb dX8_priceOf_197 (lv_at hl 0 rfl) ?_
      refine hm_iald hx hb hK hH h84 (vp_in_nI hi (by decide)) dX8_priceOf_199 ?_
      refine lv_topi (fun v87 ev87 => ?_)
      replace ev87 : v87 = (S.1 i).2.2.2.2.2.1 := ev87.trans (by show (S.1 (nI i).toNatClampNeg).2.2.2.2.2.1 = _; rw [nI_clamp (by omega)])
      subst ev87
      refine hm_iast hx hb hK hO hS hH h83 (vp_in_nI hi (by decide)) dX8_priceOf_200 (fun H locs hH hS => ?_)
      rw [nI_clamp (n := i) (by omega)] at hH
      obtain ⟨f88, ef88⟩ : ∃ zz_, zz_ = hm_up f71 ((r 19)) (eI Γ 64 (upd (fun j => (mixE S.1 (trM true rr d t z (S.1, S.2.1, S.2.2.1, S.2.2.2.1, 0)).1 i j).2.2.2.2.2.1) i ((S.1 i).2.2.2.2.2.1))) := ⟨_, rfl⟩
      have hH : hm_H Γ f88 H := by rw [ef88]; exact hH
      have h89 : f88 ((r 19)) = some (eI Γ 64 (upd (fun j => (mixE S.1 (trM true rr d t z (S.1, S.2.1, S.2.2.1, S.2.2.2.1, 0)).1 i j).2.2.2.2.2.1) i ((S.1 i).2.2.2.2.2.1))) := by rw [ef88]; exact hm_us
      have h90 : f88 m0 = some (eM r mth mpl mga mtr (nI ((trM true rr d t z (S.1, S.2.1, S.2.2.1, S.2.2.2.1, 0))).2.1) (nI rr) (((trM true rr d t z (S.1, S.2.1, S.2.2.1, S.2.2.2.1, 0))).2.2.1) mli dz2 gd2 (((trM true rr d t z (S.1, S.2.1, S.2.2.1, S.2.2.2.1, 0))).2.2.2.1) (((trM true rr d t z (S.1, S.2.1, S.2.2.1, S.2.2.2.1, 0))).2.2.2.2) ((wp d t z).2) msh msm mso msp mrf) := by rw [ef88]; exact (hm_un (hm_ne h73 h83 (fun q => by cases q))).trans h73
      have h91 : f88 ((r 14)) = some (eJ Γ 64 (vp_updL (fun j => (mixE S.1 (trM true rr d t z (S.1, S.2.1, S.2.2.1, S.2.2.2.1, 0)).1 i j).1) i ((S.1 i).1))) := by rw [ef88]; exact (hm_un (hrI 14 19 (by decide) (by decide) (by decide))).trans h74
      have h92 : f88 qa0 = some (eJ Γ 64 (fun j => (S.1 j).1)) := by rw [ef88]; exact (hm_un (fun z => hw_qa0 (Or.inr ⟨19, by decide, by decide, z⟩))).trans h75
      have h93 : f88 ((r 15)) = some (eI Γ 64 (upd (fun j => (mixE S.1 (trM true rr d t z (S.1, S.2.1, S.2.2.1, S.2.2.2.1, 0)).1 i j).2.1) i ((S.1 i).2.1))) := by rw [ef88]; exact (hm_un (hrI 15 19 (by decide) (by decide) (by decide))).trans h76
      have h94 : f88 qa1 = some (eI Γ 64 (fun j => (S.1 j).2.1)) := by rw [ef88]; exact (hm_un (fun z => hw_qa1 (Or.inr ⟨19, by decide, by decide, z⟩))).trans h77
      have h95 : f88 ((r 16)) = some (eI Γ 64 (upd (fun j => (mixE S.1 (trM true rr d t z (S.1, S.2.1, S.2.2.1, S.2.2.2.1, 0)).1 i j).2.2.1) i ((S.1 i).2.2.1))) := by rw [ef88]; exact (hm_un (hrI 16 19 (by decide) (by decide) (by decide))).trans h78
      have h96 : f88 qa2 = some (eI Γ 64 (fun j => (S.1 j).2.2.1)) := by rw [ef88]; exact (hm_un (fun z => hw_qa2 (Or.inr ⟨19, by decide, by decide, z⟩))).trans h79
      have h97 : f88 ((r 17)) = some (eI Γ 64 (upd (fun j => (mixE S.1 (trM true rr d t z (S.1, S.2.1, S.2.2.1, S.2.2.2.1, 0)).1 i j).2.2.2.1) i ((S.1 i).2.2.2.1))) := by rw [ef88]; exact (hm_un (hrI 17 19 (by decide) (by decide) (by decide))).trans h80
      have h98 : f88 qa3 = some (eI Γ 64 (fun j => (S.1 j).2.2.2.1)) := by rw [ef88]; exact (hm_un (fun z => hw_qa3 (Or.inr ⟨19, by decide, by decide, z⟩))).trans h81
      have h99 : f88 ((r 18)) = some (eI Γ 64 (upd (fun j => (mixE S.1 (trM true rr d t z (S.1, S.2.1, S.2.2.1, S.2.2.2.1, 0)).1 i j).2.2.2.2.1) i ((S.1 i).2.2.2.2.1))) := by rw [ef88]; exact (hm_un (hrI 18 19 (by decide) (by decide) (by decide))).trans h72
      have h100 : f88 qa4 = some (eI Γ 64 (fun j => (S.1 j).2.2.2.2.1)) := by rw [ef88]; exact (hm_un (fun z => hw_qa4 (Or.inr ⟨19, by decide, by decide, z⟩))).trans h82
      have h101 : f88 qa5 = some (eI Γ 64 (fun j => (S.1 j).2.2.2.2.2.1)) := by rw [ef88]; exact (hm_un (fun z => hw_qa5 (Or.inr ⟨19, by decide, by decide, z⟩))).trans h84
      have h102 : f88 ((r 20)) = some (eI Γ 64 (fun j => (mixE S.1 (trM true rr d t z (S.1, S.2.1, S.2.2.1, S.2.2.2.1, 0)).1 i j).2.2.2.2.2.2)) := by rw [ef88]; exact (hm_un (hrI 20 19 (by decide) (by decide) (by decide))).trans h85
      have h103 : f88 qa6 = some (eI Γ 64 (fun j => (S.1 j).2.2.2.2.2.2)) := by rw [ef88]; exact (hm_un (fun z => hw_qa6 (Or.inr ⟨19, by decide, by decide, z⟩))).trans h86
      refine lv_aload_n hx hb dX8_priceOf_201 rfl (lv_at hl 11 rfl) ?_
      refine gf_X8_72 hx hb hts hown hK hH h90 rfl dX8_priceOf_202 ?_
      refine lv_iload hx hb dX8_priceOf_205 (lv_at hl 0 rfl) ?_
      refine lv_aload hx hb dX8_priceOf_207 (lv_at hl 10 rfl) ?_
      refine lv_iload hx hb dX8_priceOf_209 (lv_at hl 0 rfl) ?_
      refine hm_iald hx hb hK hH h103 (vp_in_nI hi (by decide)) dX8_priceOf_211 ?_
      refine lv_topi (fun v104 ev104 => ?_)
      replace ev104 : v104 = (S.1 i).2.2.2.2.2.2 := ev104.trans (by show (S.1 (nI i).toNatClampNeg).2.2.2.2.2.2 = _; rw [nI_clamp (by omega)])
      subst ev104
      refine hm_iast hx hb hK hO hS hH h102 (vp_in_nI hi (by decide)) dX8_priceOf_212 (fun H locs hH hS => ?_)
      rw [nI_clamp (n := i) (by omega)] at hH
      obtain ⟨f105, ef105⟩ : ∃ zz_, zz_ = hm_up f88 ((r 20)) (eI Γ 64 (upd (fun j => (mixE S.1 (trM true rr d t z (S.1, S.2.1, S.2.2.1, S.2.2.2.1, 0)).1 i j).2.2.2.2.2.2) i ((S.1 i).2.2.2.2.2.2))) := ⟨_, rfl⟩
      have hH : hm_H Γ f105 H := by rw [ef105]; exact hH
      have h106 : f105 ((r 20)) = some (eI Γ 64 (upd (fun j => (mixE S.1 (trM true rr d t z (S.1, S.2.1, S.2.2.1, S.2.2.2.1, 0)).1 i j).2.2.2.2.2.2) i ((S.1 i).2.2.2.2.2.2))) := by rw [ef105]; exact hm_us
      have h107 : f105 m0 = some (eM r mth mpl mga mtr (nI ((trM true rr d t z (S.1, S.2.1, S.2.2.1, S.2.2.2.1, 0))).2.1) (nI rr) (((trM true rr d t z (S.1, S.2.1, S.2.2.1, S.2.2.2.1, 0))).2.2.1) mli dz2 gd2 (((trM true rr d t z (S.1, S.2.1, S.2.2.1, S.2.2.2.1, 0))).2.2.2.1) (((trM true rr d t z (S.1, S.2.1, S.2.2.1, S.2.2.2.1, 0))).2.2.2.2) ((wp d t z).2) msh msm mso msp mrf) := by rw [ef105]; exact (hm_un (hm_ne h90 h102 (fun q => by cases q))).trans h90
      have h108 : f105 ((r 14)) = some (eJ Γ 64 (vp_updL (fun j => (mixE S.1 (trM true rr d t z (S.1, S.2.1, S.2.2.1, S.2.2.2.1, 0)).1 i j).1) i ((S.1 i).1))) := by rw [ef105]; exact (hm_un (hrI 14 20 (by decide) (by decide) (by decide))).trans h91
      have h109 : f105 qa0 = some (eJ Γ 64 (fun j => (S.1 j).1)) := by rw [ef105]; exact (hm_un (fun z => hw_qa0 (Or.inr ⟨20, by decide, by decide, z⟩))).trans h92
      have h110 : f105 ((r 15)) = some (eI Γ 64 (upd (fun j => (mixE S.1 (trM true rr d t z (S.1, S.2.1, S.2.2.1, S.2.2.2.1, 0)).1 i j).2.1) i ((S.1 i).2.1))) := by rw [ef105]; exact (hm_un (hrI 15 20 (by decide) (by decide) (by decide))).trans h93
      have h111 : f105 qa1 = some (eI Γ 64 (fun j => (S.1 j).2.1)) := by rw [ef105]; exact (hm_un (fun z => hw_qa1 (Or.inr ⟨20, by decide, by decide, z⟩))).trans h94
      have h112 : f105 ((r 16)) = some (eI Γ 64 (upd (fun j => (mixE S.1 (trM true rr d t z (S.1, S.2.1, S.2.2.1, S.2.2.2.1, 0)).1 i j).2.2.1) i ((S.1 i).2.2.1))) := by rw [ef105]; exact (hm_un (hrI 16 20 (by decide) (by decide) (by decide))).trans h95
      have h113 : f105 qa2 = some (eI Γ 64 (fun j => (S.1 j).2.2.1)) := by rw [ef105]; exact (hm_un (fun z => hw_qa2 (Or.inr ⟨20, by decide, by decide, z⟩))).trans h96
      have h114 : f105 ((r 17)) = some (eI Γ 64 (upd (fun j => (mixE S.1 (trM true rr d t z (S.1, S.2.1, S.2.2.1, S.2.2.2.1, 0)).1 i j).2.2.2.1) i ((S.1 i).2.2.2.1))) := by rw [ef105]; exact (hm_un (hrI 17 20 (by decide) (by decide) (by decide))).trans h97
      have h115 : f105 qa3 = some (eI Γ 64 (fun j => (S.1 j).2.2.2.1)) := by rw [ef105]; exact (hm_un (fun z => hw_qa3 (Or.inr ⟨20, by decide, by decide, z⟩))).trans h98
      have h116 : f105 ((r 18)) = some (eI Γ 64 (upd (fun j => (mixE S.1 (trM true rr d t z (S.1, S.2.1, S.2.2.1, S.2.2.2.1, 0)).1 i j).2.2.2.2.1) i ((S.1 i).2.2.2.2.1))) := by rw [ef105]; exact (hm_un (hrI 18 20 (by decide) (by decide) (by decide))).trans h99
      have h117 : f105 qa4 = some (eI Γ 64 (fun j => (S.1 j).2.2.2.2.1)) := by rw [ef105]; exact (hm_un (fun z => hw_qa4 (Or.inr ⟨20, by decide, by decide, z⟩))).trans h100
      have h118 : f105 ((r 19)) = some (eI Γ 64 (upd (fun j => (mixE S.1 (trM true rr d t z (S.1, S.2.1, S.2.2.1, S.2.2.2.1, 0)).1 i j).2.2.2.2.2.1) i ((S.1 i).2.2.2.2.2.1))) := by rw [ef105]; exact (hm_un (hrI 19 20 (by decide) (by decide) (by decide))).trans h89
      have h119 : f105 qa5 = some (eI Γ 64 (fun j => (S.1 j).2.2.2.2.2.1)) := by rw [ef105]; exact (hm_un (fun z => hw_qa5 (Or.inr ⟨20, by decide, by decide, z⟩))).trans h101
      have h120 : f105 qa6 = some (eI Γ 64 (fun j => (S.1 j).2.2.2.2.2.2)) := by rw [ef105]; exact (hm_un (fun z => hw_qa6 (Or.inr ⟨20, by decide, by decide, z⟩))).trans h103
      refine lv_iinc (v := (nI (i + 1))) (lv' := [(13, .int ((nI (i + 1)))), (12, .int (nI (wp d t z).1)), (11, .int S.2.2.1), (10, .int (nI S.2.1)), (3, .ref qa0), (4, .ref qa1), (5, .ref qa2), (6, .ref qa3), (7, .ref qa4), (8, .ref qa5), (9, .ref qa6), (0, .ref m0)]) hx hb dX8_priceOf_213 hl (k := 0) rfl (nI_1 i) (by decide) rfl (fun ls hl => ?_)
      refine lv_goto (tgt := 123) hx hb dX8_priceOf_216 (by decide) ?_
      have hfr9 : hm_fr (kS m0 r) f2_ f105 := by rw [ef105, ef88, ef71, ef54, ef37, ef20, ef3]; exact (((((((hfr3).up (Or.inr ⟨14, by decide, by decide, rfl⟩)).up (Or.inr ⟨15, by decide, by decide, rfl⟩)).up (Or.inr ⟨16, by decide, by decide, rfl⟩)).up (Or.inr ⟨17, by decide, by decide, rfl⟩)).up (Or.inr ⟨18, by decide, by decide, rfl⟩)).up (Or.inr ⟨19, by decide, by decide, rfl⟩)).up (Or.inr ⟨20, by decide, by decide, rfl⟩)
      exact ih (i + 1) f105 (by omega) ⟨(h108.trans (congrArg some (congrArg (eJ Γ 64) (mix_fun (fun x : EV => x.1) S.1 (trM true rr d t z (S.1, S.2.1, S.2.2.1, S.2.2.2.1, 0)).1 i rfl)))), (h110.trans (congrArg some (congrArg (eI Γ 64) (mix_fun (fun x : EV => x.2.1) S.1 (trM true rr d t z (S.1, S.2.1, S.2.2.1, S.2.2.2.1, 0)).1 i rfl)))), (h112.trans (congrArg some (congrArg (eI Γ 64) (mix_fun (fun x : EV => x.2.2.1) S.1 (trM true rr d t z (S.1, S.2.1, S.2.2.1, S.2.2.2.1, 0)).1 i rfl)))), (h114.trans (congrArg some (congrArg (eI Γ 64) (mix_fun (fun x : EV => x.2.2.2.1) S.1 (trM true rr d t z (S.1, S.2.1, S.2.2.1, S.2.2.2.1, 0)).1 i rfl)))), (h116.trans (congrArg some (congrArg (eI Γ 64) (mix_fun (fun x : EV => x.2.2.2.2.1) S.1 (trM true rr d t z (S.1, S.2.1, S.2.2.1, S.2.2.2.1, 0)).1 i rfl)))), (h118.trans (congrArg some (congrArg (eI Γ 64) (mix_fun (fun x : EV => x.2.2.2.2.2.1) S.1 (trM true rr d t z (S.1, S.2.1, S.2.2.1, S.2.2.2.1, 0)).1 i rfl)))), (h106.trans (congrArg some (congrArg (eI Γ 64) (mix_fun (fun x : EV => x.2.2.2.2.2.2) S.1 (trM true rr d t z (S.1, S.2.1, S.2.2.1, S.2.2.2.1, 0)).1 i rfl))))⟩ hfr9 (h107.trans hm2.symm) H locs hH hS ls (lv_sub hl [0, 1, 2, 3, 4, 5, 6, 7, 8, 9, 10, 11] rfl)
  exact loop 64 0 f2_ (by omega) (by rw [mixE_0]; exact hKA2) hm_fr.rf rfl H locs hH hS ls (lv_sub hl [0, 1, 2, 3, 10, 9, 8, 7, 6, 5, 4, 11] rfl)
