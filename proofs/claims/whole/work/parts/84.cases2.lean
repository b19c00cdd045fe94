/-! the law's cases: what is only told, the figures -/
set_option maxHeartbeats 4000000 in
set_option maxRecDepth 100000 in
theorem cs_entries {p : Program} {l : Launch} {e : Env} {R : Room} {s : State} {m : MethodId} {args : Array Value} {below : List Frame} {meth : Method} {c : Code} {Q : State → Prop} (Γ : Gm) (hx : p.tables.exec = Jvm.exec) (hb : c.code = cL_law) (hml : c.maxLocals = 9) (hown : s.vm.findClass "TileWardenLaw" = some m.cls) (hts : ∀ w ∈ lwG, w.before args s = true) (hK : KK Γ s) (hO : hm_O Γ s.heap) (hst : l.stackTraces = false) {b L : Nat} {xs : Nat → Int32} (hX : va_X b L xs s s.heap) (hbl : b < s.heap.size) (hbA : ¬ gA Γ b) (hRf : 400 ≤ R.frames ∧ 10000 ≤ R.locals) {x0 m0 o oD n i : Nat} {r : Nat → Nat} {f : Hm} {H : Heap} {locs : List Loc} {cells slots : Nat} (hcf : cells + 16 ≤ R.cells ∧ slots + 700 ≤ R.slots) (hJ : JS Γ f x0 m0 o oD r n) (hn : n ≤ 511) (hi : i + 4 ≤ L) (hL : L ≤ 2048) (hH : hm_H Γ f H) (hS : va_S (gA Γ) s.heap H locs) (ls : Array Slot) (hl : lv_has ls 9 [(5, .int (nI i)), (4, .ref oD), (3, .ref o), (2, .ref m0), (1, .ref x0), (0, .ref b)])
    (K_ : ∀ (f' : Hm) (H' : Heap) (locs' : List Loc), JS Γ f' x0 m0 o oD r (n + 1) → hm_H Γ f' H' → va_S (gA Γ) s.heap H' locs' → ∀ ls' : Array Slot, lv_has ls' 9 [(5, .int (nI i)), (4, .ref oD), (3, .ref o), (2, .ref m0), (1, .ref x0), (0, .ref b)] → W p l e R s m args below meth c H' locs' (cells + 16) (slots + 700) Q (F0 m 1753 ls' [])) : W p l e R s m args below meth c H locs cells slots Q (F0 m 1014 ls []) := by
  obtain ⟨th, K, kp, ck, msh, msm, mso, mf, E, cn, us, so, sh, sm, np, mon, ng, gs, nt, ts, lim, rf, sp, rr, hC, hM, hI, hrI, ⟨g0, ho⟩, ⟨gD, hoD⟩⟩ := hJ
  have h34 := hm_c34 hK
  have hgs := hI.gok (by omega)
  obtain ⟨⟨hnp, hng, hnt, hr1, hrr, hkr⟩, hIg, hdf0, hIt, hIs, ⟨⟨σ, hσ⟩, hIc, hcn, hok, hmk⟩, hrf, hmon⟩ := id hI
  have hkp : kp ≤ 64 := by omega
  have hL4 : i + 3 < L := by omega
  obtain ⟨lp, lg, lt, ca, tr, pl, ⟨hx0, -⟩, -⟩ := id hC
  refine lv_aload_n hx hb dL_law_1014 rfl (lv_at hl 4 rfl) ?_
  refine hm_callV (rest := []) (k := 1) q1_190 q1_191 q1_1 q1_193 q1_192 rfl nm_X7_entries rfl hx hb hml hown hts hK hO hS hH hl.1 hx0 (t_X7_entries Γ l x0 mf E cn us so sh sm np mon ng gs nt ts lim rf sp rr f hC hnp hng hnt hr1 hrr hgs) ⟨by omega, by omega⟩ ⟨by omega, by omega⟩ rfl (Nat.le_of_ble_eq_true rfl) dL_law_1015 (fun v_ f_ H locs hp_ hH hS => ?_)
  obtain ⟨rfl, ef_⟩ := hp_
  rw [ef_] at hH
  clear ef_
  refine W.eq (g2 := F0 m 1018 ls [.int ((nI kp))]) (by rw [← hcn]; rfl) ?_
  obtain ⟨⟨dz, gd, hih, mih, fh, hm1⟩, -⟩ := id hM
  refine lv_aload_n hx hb dL_law_1018 rfl (lv_at hl 3 rfl) ?_
  refine hm_callV (rest := [.int ((nI kp))]) (k := 1) q6_13 q6_14 q1_9 q6_16 q6_15 rfl nm_X8_entries rfl hx hb hml hown hts hK hO hS hH hl.1 hm1 (c_X8_entries Γ l m0 r _ _ _ _ _ _ _ _ _ _ _ _ _ _ _ _ _ _ f hm1) ⟨by omega, by omega⟩ ⟨by omega, by omega⟩ rfl (Nat.le_of_ble_eq_true rfl) dL_law_1019 (fun v_ f_ H locs hp_ hH hS => ?_)
  obtain ⟨rfl, ef_⟩ := hp_
  rw [ef_] at hH
  clear ef_
  refine W.eq (g2 := F0 m 1022 ls [.int ((nI kp)), .int ((nI kp))]) rfl ?_
  refine lv_icmp_eq (tgt := 1753) hx hb dL_law_1022 (by decide) (fun _ => ?_) (fun c1 => absurd (rfl) c1)
  refine W.widen (k := cells + 16) (n := slots + 700) (by omega) (by omega) ?_
  exact K_ f H locs ⟨th, K, kp, ck, msh, msm, mso, mf, E, cn, us, so, sh, sm, np, mon, ng, gs, nt, ts, lim, rf, sp, rr, hC, hM, hI.mono, hrI, ⟨g0, ho⟩, ⟨gD, hoD⟩⟩ hH hS ls (lv_sub hl [0, 1, 2, 3, 4, 5] rfl)
set_option maxHeartbeats 4000000 in
set_option maxRecDepth 100000 in
theorem cs_pinned {p : Program} {l : Launch} {e : Env} {R : Room} {s : State} {m : MethodId} {args : Array Value} {below : List Frame} {meth : Method} {c : Code} {Q : State → Prop} (Γ : Gm) (hx : p.tables.exec = Jvm.exec) (hb : c.code = cL_law) (hml : c.maxLocals = 9) (hown : s.vm.findClass "TileWardenLaw" = some m.cls) (hts : ∀ w ∈ lwG, w.before args s = true) (hK : KK Γ s) (hO : hm_O Γ s.heap) (hst : l.stackTraces = false) {b L : Nat} {xs : Nat → Int32} (hX : va_X b L xs s s.heap) (hbl : b < s.heap.size) (hbA : ¬ gA Γ b) (hRf : 400 ≤ R.frames ∧ 10000 ≤ R.locals) {x0 m0 o oD n i : Nat} {r : Nat → Nat} {f : Hm} {H : Heap} {locs : List Loc} {cells slots : Nat} (hcf : cells + 16 ≤ R.cells ∧ slots + 700 ≤ R.slots) (hJ : JS Γ f x0 m0 o oD r n) (hn : n ≤ 511) (hi : i + 4 ≤ L) (hL : L ≤ 2048) (hH : hm_H Γ f H) (hS : va_S (gA Γ) s.heap H locs) (ls : Array Slot) (hl : lv_has ls 9 [(5, .int (nI i)), (4, .ref oD), (3, .ref o), (2, .ref m0), (1, .ref x0), (0, .ref b)])
    (K_ : ∀ (f' : Hm) (H' : Heap) (locs' : List Loc), JS Γ f' x0 m0 o oD r (n + 1) → hm_H Γ f' H' → va_S (gA Γ) s.heap H' locs' → ∀ ls' : Array Slot, lv_has ls' 9 [(5, .int (nI i)), (4, .ref oD), (3, .ref o), (2, .ref m0), (1, .ref x0), (0, .ref b)] → W p l e R s m args below meth c H' locs' (cells + 16) (slots + 700) Q (F0 m 1753 ls' [])) : W p l e R s m args below meth c H locs cells slots Q (F0 m 1226 ls []) := by
  obtain ⟨th, K, kp, ck, msh, msm, mso, mf, E, cn, us, so, sh, sm, np, mon, ng, gs, nt, ts, lim, rf, sp, rr, hC, hM, hI, hrI, ⟨g0, ho⟩, ⟨gD, hoD⟩⟩ := hJ
  have h34 := hm_c34 hK
  have hgs := hI.gok (by omega)
  obtain ⟨⟨hnp, hng, hnt, hr1, hrr, hkr⟩, hIg, hdf0, hIt, hIs, ⟨⟨σ, hσ⟩, hIc, hcn, hok, hmk⟩, hrf, hmon⟩ := id hI
  have hkp : kp ≤ 64 := by omega
  have hL4 : i + 3 < L := by omega
  obtain ⟨lp, lg, lt, ca, tr, pl, ⟨hx0, -⟩, -⟩ := id hC
  refine lv_aload_n hx hb dL_law_1226 rfl (lv_at hl 4 rfl) ?_
  refine hm_callV (rest := []) (k := 2) q1_194 q1_195 q1_1 q1_197 q1_196 rfl nm_X7_pinned rfl hx hb hml hown hts hK hO hS hH hl.1 hx0 (t_X7_pinned Γ l x0 mf E cn us so sh sm np mon ng gs nt ts lim rf sp rr f hC hnp hng hnt hr1 hrr hgs) ⟨by omega, by omega⟩ ⟨by omega, by omega⟩ rfl (Nat.le_of_ble_eq_true rfl) dL_law_1227 (fun v_ f_ H locs hp_ hH hS => ?_)
  obtain ⟨rfl, ef_⟩ := hp_
  rw [ef_] at hH
  clear ef_
  refine W.eq (g2 := F0 m 1230 ls [.int (nI (cntP (pnB E) 64))]) rfl ?_
  obtain ⟨⟨dz, gd, hih, mih, fh, hm1⟩, -⟩ := id hM
  refine lv_aload_n hx hb dL_law_1230 rfl (lv_at hl 3 rfl) ?_
  refine hm_callV (rest := [.int (nI (cntP (pnB E) 64))]) (k := 2) q6_41 q6_42 q1_9 q6_44 q6_43 rfl nm_X8_pinned rfl hx hb hml hown hts hK hO hS hH hl.1 hm1 (c_X8_pinned Γ l m0 r _ _ _ _ _ _ _ _ _ _ _ _ _ _ _ _ _ kp K f hm1 (by obtain ⟨-, h_, -⟩ := hM; exact h_) hkp) ⟨by omega, by omega⟩ ⟨by omega, by omega⟩ rfl (Nat.le_of_ble_eq_true rfl) dL_law_1231 (fun v_ f_ H locs hp_ hH hS => ?_)
  obtain ⟨rfl, ef_⟩ := hp_
  rw [ef_] at hH
  clear ef_
  refine W.eq (g2 := F0 m 1234 ls [.int (nI (cntP (pnB K) kp)), .int (nI (cntP (pnB E) 64))]) rfl ?_
  refine lv_icmp_eq (tgt := 1753) hx hb dL_law_1234 (by decide) (fun _ => ?_) (fun c1 => absurd ((congrArg nI (cnt_pins hσ))) c1)
  refine W.widen (k := cells + 16) (n := slots + 700) (by omega) (by omega) ?_
  exact K_ f H locs ⟨th, K, kp, ck, msh, msm, mso, mf, E, cn, us, so, sh, sm, np, mon, ng, gs, nt, ts, lim, rf, sp, rr, hC, hM, hI.mono, hrI, ⟨g0, ho⟩, ⟨gD, hoD⟩⟩ hH hS ls (lv_sub hl [0, 1, 2, 3, 4, 5] rfl)
set_option maxHeartbeats 4000000 in
set_option maxRecDepth 100000 in
theorem cs_traces {p : Program} {l : Launch} {e : Env} {R : Room} {s : State} {m : MethodId} {args : Array Value} {below : List Frame} {meth : Method} {c : Code} {Q : State → Prop} (Γ : Gm) (hx : p.tables.exec = Jvm.exec) (hb : c.code = cL_law) (hml : c.maxLocals = 9) (hown : s.vm.findClass "TileWardenLaw" = some m.cls) (hts : ∀ w ∈ lwG, w.before args s = true) (hK : KK Γ s) (hO : hm_O Γ s.heap) (hst : l.stackTraces = false) {b L : Nat} {xs : Nat → Int32} (hX : va_X b L xs s s.heap) (hbl : b < s.heap.size) (hbA : ¬ gA Γ b) (hRf : 400 ≤ R.frames ∧ 10000 ≤ R.locals) {x0 m0 o oD n i : Nat} {r : Nat → Nat} {f : Hm} {H : Heap} {locs : List Loc} {cells slots : Nat} (hcf : cells + 16 ≤ R.cells ∧ slots + 700 ≤ R.slots) (hJ : JS Γ f x0 m0 o oD r n) (hn : n ≤ 511) (hi : i + 4 ≤ L) (hL : L ≤ 2048) (hH : hm_H Γ f H) (hS : va_S (gA Γ) s.heap H locs) (ls : Array Slot) (hl : lv_has ls 9 [(5, .int (nI i)), (4, .ref oD), (3, .ref o), (2, .ref m0), (1, .ref x0), (0, .ref b)])
    (K_ : ∀ (f' : Hm) (H' : Heap) (locs' : List Loc), JS Γ f' x0 m0 o oD r (n + 1) → hm_H Γ f' H' → va_S (gA Γ) s.heap H' locs' → ∀ ls' : Array Slot, lv_has ls' 9 [(5, .int (nI i)), (4, .ref oD), (3, .ref o), (2, .ref m0), (1, .ref x0), (0, .ref b)] → W p l e R s m args below meth c H' locs' (cells + 16) (slots + 700) Q (F0 m 1753 ls' [])) : W p l e R s m args below meth c H locs cells slots Q (F0 m 1470 ls []) := by
  obtain ⟨th, K, kp, ck, msh, msm, mso, mf, E, cn, us, so, sh, sm, np, mon, ng, gs, nt, ts, lim, rf, sp, rr, hC, hM, hI, hrI, ⟨g0, ho⟩, ⟨gD, hoD⟩⟩ := hJ
  have h34 := hm_c34 hK
  have hgs := hI.gok (by omega)
  obtain ⟨⟨hnp, hng, hnt, hr1, hrr, hkr⟩, hIg, hdf0, hIt, hIs, ⟨⟨σ, hσ⟩, hIc, hcn, hok, hmk⟩, hrf, hmon⟩ := id hI
  have hkp : kp ≤ 64 := by omega
  have hL4 : i + 3 < L := by omega
  obtain ⟨lp, lg, lt, ca, tr, pl, ⟨hx0, -⟩, -⟩ := id hC
  refine lv_aload_n hx hb dL_law_1470 rfl (lv_at hl 4 rfl) ?_
  refine hm_callV (rest := []) (k := 2) q1_202 q1_203 q1_1 q1_205 q1_204 rfl nm_X7_traces rfl hx hb hml hown hts hK hO hS hH hl.1 hx0 (t_X7_traces Γ l x0 mf E cn us so sh sm np mon ng gs nt ts lim rf sp rr f hC hnp hng hnt hr1 hrr hgs) ⟨by omega, by omega⟩ ⟨by omega, by omega⟩ rfl (Nat.le_of_ble_eq_true rfl) dL_law_1471 (fun v_ f_ H locs hp_ hH hS => ?_)
  obtain ⟨rfl, ef_⟩ := hp_
  rw [ef_] at hH
  clear ef_
  refine W.eq (g2 := F0 m 1474 ls [.int (nI nt)]) rfl ?_
  obtain ⟨⟨dz, gd, hih, mih, fh, hm1⟩, -⟩ := id hM
  refine lv_aload_n hx hb dL_law_1474 rfl (lv_at hl 3 rfl) ?_
  refine hm_callV (rest := [.int (nI nt)]) (k := 1) q6_61 q6_62 q1_9 q6_64 q6_63 rfl nm_X8_traces rfl hx hb hml hown hts hK hO hS hH hl.1 hm1 (c_X8_traces Γ l m0 r _ _ _ _ _ _ _ _ _ _ _ _ _ _ _ _ _ _ f hm1) ⟨by omega, by omega⟩ ⟨by omega, by omega⟩ rfl (Nat.le_of_ble_eq_true rfl) dL_law_1475 (fun v_ f_ H locs hp_ hH hS => ?_)
  obtain ⟨rfl, ef_⟩ := hp_
  rw [ef_] at hH
  clear ef_
  refine W.eq (g2 := F0 m 1478 ls [.int (nI nt), .int (nI nt)]) rfl ?_
  refine lv_icmp_eq (tgt := 1753) hx hb dL_law_1478 (by decide) (fun _ => ?_) (fun c1 => absurd (rfl) c1)
  refine W.widen (k := cells + 16) (n := slots + 700) (by omega) (by omega) ?_
  exact K_ f H locs ⟨th, K, kp, ck, msh, msm, mso, mf, E, cn, us, so, sh, sm, np, mon, ng, gs, nt, ts, lim, rf, sp, rr, hC, hM, hI.mono, hrI, ⟨g0, ho⟩, ⟨gD, hoD⟩⟩ hH hS ls (lv_sub hl [0, 1, 2, 3, 4, 5] rfl)
set_option maxHeartbeats 4000000 in
set_option maxRecDepth 100000 in
theorem cs_refunds {p : Program} {l : Launch} {e : Env} {R : Room} {s : State} {m : MethodId} {args : Array Value} {below : List Frame} {meth : Method} {c : Code} {Q : State → Prop} (Γ : Gm) (hx : p.tables.exec = Jvm.exec) (hb : c.code = cL_law) (hml : c.maxLocals = 9) (hown : s.vm.findClass "TileWardenLaw" = some m.cls) (hts : ∀ w ∈ lwG, w.before args s = true) (hK : KK Γ s) (hO : hm_O Γ s.heap) (hst : l.stackTraces = false) {b L : Nat} {xs : Nat → Int32} (hX : va_X b L xs s s.heap) (hbl : b < s.heap.size) (hbA : ¬ gA Γ b) (hRf : 400 ≤ R.frames ∧ 10000 ≤ R.locals) {x0 m0 o oD n i : Nat} {r : Nat → Nat} {f : Hm} {H : Heap} {locs : List Loc} {cells slots : Nat} (hcf : cells + 16 ≤ R.cells ∧ slots + 700 ≤ R.slots) (hJ : JS Γ f x0 m0 o oD r n) (hn : n ≤ 511) (hi : i + 4 ≤ L) (hL : L ≤ 2048) (hH : hm_H Γ f H) (hS : va_S (gA Γ) s.heap H locs) (ls : Array Slot) (hl : lv_has ls 9 [(5, .int (nI i)), (4, .ref oD), (3, .ref o), (2, .ref m0), (1, .ref x0), (0, .ref b)])
    (K_ : ∀ (f' : Hm) (H' : Heap) (locs' : List Loc), JS Γ f' x0 m0 o oD r (n + 1) → hm_H Γ f' H' → va_S (gA Γ) s.heap H' locs' → ∀ ls' : Array Slot, lv_has ls' 9 [(5, .int (nI i)), (4, .ref oD), (3, .ref o), (2, .ref m0), (1, .ref x0), (0, .ref b)] → W p l e R s m args below meth c H' locs' (cells + 16) (slots + 700) Q (F0 m 1753 ls' [])) : W p l e R s m args below meth c H locs cells slots Q (F0 m 1595 ls []) := by
  obtain ⟨th, K, kp, ck, msh, msm, mso, mf, E, cn, us, so, sh, sm, np, mon, ng, gs, nt, ts, lim, rf, sp, rr, hC, hM, hI, hrI, ⟨g0, ho⟩, ⟨gD, hoD⟩⟩ := hJ
  have h34 := hm_c34 hK
  have hgs := hI.gok (by omega)
  obtain ⟨⟨hnp, hng, hnt, hr1, hrr, hkr⟩, hIg, hdf0, hIt, hIs, ⟨⟨σ, hσ⟩, hIc, hcn, hok, hmk⟩, hrf, hmon⟩ := id hI
  have hkp : kp ≤ 64 := by omega
  have hL4 : i + 3 < L := by omega
  obtain ⟨lp, lg, lt, ca, tr, pl, ⟨hx0, -⟩, -⟩ := id hC
  refine lv_aload_n hx hb dL_law_1595 rfl (lv_at hl 4 rfl) ?_
  refine hm_callV (rest := []) (k := 1) q1_210 q1_211 q1_1 q1_213 q1_212 rfl nm_X7_refunds rfl hx hb hml hown hts hK hO hS hH hl.1 hx0 (t_X7_refunds Γ l x0 mf E cn us so sh sm np mon ng gs nt ts lim rf sp rr f hC hnp hng hnt hr1 hrr hgs) ⟨by omega, by omega⟩ ⟨by omega, by omega⟩ rfl (Nat.le_of_ble_eq_true rfl) dL_law_1596 (fun v_ f_ H locs hp_ hH hS => ?_)
  obtain ⟨rfl, ef_⟩ := hp_
  rw [ef_] at hH
  clear ef_
  refine W.eq (g2 := F0 m 1599 ls [.long rf]) rfl ?_
  obtain ⟨⟨dz, gd, hih, mih, fh, hm1⟩, -⟩ := id hM
  refine lv_aload_n hx hb dL_law_1599 rfl (lv_at hl 3 rfl) ?_
  refine hm_callV (rest := [.long rf]) (k := 1) q6_77 q6_78 q1_9 q6_80 q6_79 rfl nm_X8_refunds rfl hx hb hml hown hts hK hO hS hH hl.1 hm1 (c_X8_refunds Γ l m0 r _ _ _ _ _ _ _ _ _ _ _ _ _ _ _ _ _ _ f hm1) ⟨by omega, by omega⟩ ⟨by omega, by omega⟩ rfl (Nat.le_of_ble_eq_true rfl) dL_law_1600 (fun v_ f_ H locs hp_ hH hS => ?_)
  obtain ⟨rfl, ef_⟩ := hp_
  rw [ef_] at hH
  clear ef_
  refine W.eq (g2 := F0 m 1603 ls [.long rf, .long rf]) rfl ?_
  refine W.lcmp hx hb dL_law_1603 ?_
  refine lv_if_eq (tgt := 1753) hx hb dL_law_1604 (by decide) (fun _ => ?_) (fun c2 => absurd (m_cmp.mpr rfl) c2)
  refine W.widen (k := cells + 16) (n := slots + 700) (by omega) (by omega) ?_
  exact K_ f H locs ⟨th, K, kp, ck, msh, msm, mso, mf, E, cn, us, so, sh, sm, np, mon, ng, gs, nt, ts, lim, rf, sp, rr, hC, hM, hI.mono, hrI, ⟨g0, ho⟩, ⟨gD, hoD⟩⟩ hH hS ls (lv_sub hl [0, 1, 2, 3, 4, 5] rfl)
set_option maxHeartbeats 4000000 in
set_option maxRecDepth 100000 in
theorem cs_isSound {p : Program} {l : Launch} {e : Env} {R : Room} {s : State} {m : MethodId} {args : Array Value} {below : List Frame} {meth : Method} {c : Code} {Q : State → Prop} (Γ : Gm) (hx : p.tables.exec = Jvm.exec) (hb : c.code = cL_law) (hml : c.maxLocals = 9) (hown : s.vm.findClass "TileWardenLaw" = some m.cls) (hts : ∀ w ∈ lwG, w.before args s = true) (hK : KK Γ s) (hO : hm_O Γ s.heap) (hst : l.stackTraces = false) {b L : Nat} {xs : Nat → Int32} (hX : va_X b L xs s s.heap) (hbl : b < s.heap.size) (hbA : ¬ gA Γ b) (hRf : 400 ≤ R.frames ∧ 10000 ≤ R.locals) {x0 m0 o oD n i : Nat} {r : Nat → Nat} {f : Hm} {H : Heap} {locs : List Loc} {cells slots : Nat} (hcf : cells + 16 ≤ R.cells ∧ slots + 700 ≤ R.slots) (hJ : JS Γ f x0 m0 o oD r n) (hn : n ≤ 511) (hi : i + 4 ≤ L) (hL : L ≤ 2048) (hH : hm_H Γ f H) (hS : va_S (gA Γ) s.heap H locs) (ls : Array Slot) (hl : lv_has ls 9 [(5, .int (nI i)), (4, .ref oD), (3, .ref o), (2, .ref m0), (1, .ref x0), (0, .ref b)])
    (K_ : ∀ (f' : Hm) (H' : Heap) (locs' : List Loc), JS Γ f' x0 m0 o oD r (n + 1) → hm_H Γ f' H' → va_S (gA Γ) s.heap H' locs' → ∀ ls' : Array Slot, lv_has ls' 9 [(5, .int (nI i)), (4, .ref oD), (3, .ref o), (2, .ref m0), (1, .ref x0), (0, .ref b)] → W p l e R s m args below meth c H' locs' (cells + 16) (slots + 700) Q (F0 m 1753 ls' [])) : W p l e R s m args below meth c H locs cells slots Q (F0 m 1740 ls []) := by
  obtain ⟨th, K, kp, ck, msh, msm, mso, mf, E, cn, us, so, sh, sm, np, mon, ng, gs, nt, ts, lim, rf, sp, rr, hC, hM, hI, hrI, ⟨g0, ho⟩, ⟨gD, hoD⟩⟩ := hJ
  have h34 := hm_c34 hK
  have hgs := hI.gok (by omega)
  obtain ⟨⟨hnp, hng, hnt, hr1, hrr, hkr⟩, hIg, hdf0, hIt, hIs, ⟨⟨σ, hσ⟩, hIc, hcn, hok, hmk⟩, hrf, hmon⟩ := id hI
  have hkp : kp ≤ 64 := by omega
  have hL4 : i + 3 < L := by omega
  obtain ⟨lp, lg, lt, ca, tr, pl, ⟨hx0, -⟩, -⟩ := id hC
  refine lv_aload_n hx hb dL_law_1740 rfl (lv_at hl 4 rfl) ?_
  refine hm_callV (rest := []) (k := 15) q1_214 q1_215 q1_1 q1_217 q1_216 rfl nm_X7_isSound rfl hx hb hml hown hts hK hO hS hH hl.1 hx0 (t_X7_isSound Γ l x0 mf E cn us so sh sm np mon ng gs nt ts lim rf sp rr f hC hnp hng hnt hr1 hrr hgs hok (fun j hj h => hσ.2.2.2 j hj h) hrf hmon) ⟨by omega, by omega⟩ ⟨by omega, by omega⟩ rfl (Nat.le_of_ble_eq_true rfl) dL_law_1741 (fun v_ f2_ H locs hp_ hH hS => ?_)
  obtain ⟨rfl, hC2, hkM⟩ := hp_
  refine W.eq (g2 := F0 m 1744 ls [.int 1]) rfl ?_
  have hM2 := hM.kpt hkM
  have ho2 := hkM _ _ ho rfl
  have hoD2 := hkM _ _ hoD rfl
  obtain ⟨⟨dz, gd, hih, mih, fh, hm1⟩, -⟩ := id hM2
  refine lv_aload_n hx hb dL_law_1744 rfl (lv_at hl 3 rfl) ?_
  refine hm_callV (rest := [.int 1]) (k := 1) q6_93 q6_94 q1_9 q6_96 q6_95 rfl nm_X8_isSound rfl hx hb hml hown hts hK hO hS hH hl.1 hm1 (c_X8_isSound Γ l m0 f2_) ⟨by omega, by omega⟩ ⟨by omega, by omega⟩ rfl (Nat.le_of_ble_eq_true rfl) dL_law_1745 (fun v_ f_ H locs hp_ hH hS => ?_)
  obtain ⟨rfl, ef_⟩ := hp_
  rw [ef_] at hH
  clear ef_
  refine W.eq (g2 := F0 m 1748 ls [.int 1, .int 1]) rfl ?_
  refine lv_icmp_eq (tgt := 1753) hx hb dL_law_1748 (by decide) (fun _ => ?_) (fun c1 => absurd (rfl) c1)
  refine W.widen (k := cells + 16) (n := slots + 700) (by omega) (by omega) ?_
  exact K_ f2_ H locs ⟨th, K, kp, ck, msh, msm, mso, mf, E, cn, us, so, sh, sm, np, mon, ng, gs, nt, ts, lim, rf, sp, rr, hC2, hM2, hI.mono, hrI, ⟨g0, ho2⟩, ⟨gD, hoD2⟩⟩ hH hS ls (lv_sub hl [0, 1, 2, 3, 4, 5] rfl)
set_option maxHeartbeats 4000000 in
set_option maxRecDepth 100000 in
theorem cs_hitShare {p : Program} {l : Launch} {e : Env} {R : Room} {s : State} {m : MethodId} {args : Array Value} {below : List Frame} {meth : Method} {c : Code} {Q : State → Prop} (Γ : Gm) (hx : p.tables.exec = Jvm.exec) (hb : c.code = cL_law) (hml : c.maxLocals = 9) (hown : s.vm.findClass "TileWardenLaw" = some m.cls) (hts : ∀ w ∈ lwG, w.before args s = true) (hK : KK Γ s) (hO : hm_O Γ s.heap) (hst : l.stackTraces = false) {b L : Nat} {xs : Nat → Int32} (hX : va_X b L xs s s.heap) (hbl : b < s.heap.size) (hbA : ¬ gA Γ b) (hRf : 400 ≤ R.frames ∧ 10000 ≤ R.locals) {x0 m0 o oD n i : Nat} {r : Nat → Nat} {f : Hm} {H : Heap} {locs : List Loc} {cells slots : Nat} (hcf : cells + 16 ≤ R.cells ∧ slots + 700 ≤ R.slots) (hJ : JS Γ f x0 m0 o oD r n) (hn : n ≤ 511) (hi : i + 4 ≤ L) (hL : L ≤ 2048) (hH : hm_H Γ f H) (hS : va_S (gA Γ) s.heap H locs) (ls : Array Slot) (hl : lv_has ls 9 [(5, .int (nI i)), (4, .ref oD), (3, .ref o), (2, .ref m0), (1, .ref x0), (0, .ref b)])
    (K_ : ∀ (f' : Hm) (H' : Heap) (locs' : List Loc), JS Γ f' x0 m0 o oD r (n + 1) → hm_H Γ f' H' → va_S (gA Γ) s.heap H' locs' → ∀ ls' : Array Slot, lv_has ls' 9 [(5, .int (nI i)), (4, .ref oD), (3, .ref o), (2, .ref m0), (1, .ref x0), (0, .ref b)] → W p l e R s m args below meth c H' locs' (cells + 16) (slots + 700) Q (F0 m 1753 ls' [])) : W p l e R s m args below meth c H locs cells slots Q (F0 m 1609 ls []) := by
  obtain ⟨th, K, kp, ck, msh, msm, mso, mf, E, cn, us, so, sh, sm, np, mon, ng, gs, nt, ts, lim, rf, sp, rr, hC, hM, hI, hrI, ⟨g0, ho⟩, ⟨gD, hoD⟩⟩ := hJ
  have h34 := hm_c34 hK
  have hgs := hI.gok (by omega)
  obtain ⟨⟨hnp, hng, hnt, hr1, hrr, hkr⟩, hIg, hdf0, hIt, hIs, ⟨⟨σ, hσ⟩, hIc, hcn, hok, hmk⟩, hrf, hmon⟩ := id hI
  have hkp : kp ≤ 64 := by omega
  have hL4 : i + 3 < L := by omega
  obtain ⟨hs1, hs2, qa, qb, hs3, hs4, hs5, hs6, hs7, hs8⟩ := hIs
  have hab : qa + qb < 2 ^ 24 := by omega
  have hNH : FP.i2f msh = FP.i2f (nI qa) := by rw [hs5]
  refine lv_aload_n hx hb dL_law_1609 rfl (lv_at hl 4 rfl) ?_
  refine lv_aload hx hb dL_law_1610 (lv_at hl 1 rfl) ?_
  refine hm_callSW (rest := []) (k := 3) q4_171 q4_172 q1_0 q4_173 nm_L_hitShare rfl hx hb hml hown hts hK hO hS hH hl.1 (l_hitShare Γ l x0 mf E cn us so sh sm np mon ng gs nt ts lim rf sp rr oD gD qa qb f hst hC hnp hng hnt hr1 hrr hgs hs6 hs8 hab hoD) ⟨by omega, by omega⟩ ⟨by omega, by omega⟩ rfl (Nat.le_of_ble_eq_true rfl) dL_law_1612 (fun v1_ f1_ H locs hp_ hH hS => ?_)
  obtain ⟨hpa, hpO⟩ := hp_
  obtain ⟨k_, rfl⟩ : ∃ x, v1_ = some (.int x) := by rcases hpa with ⟨_, h, _⟩ | ⟨_, h, _⟩ <;> exact ⟨_, h⟩
  refine W.eq (g2 := F0 m 1615 ls [.int k_]) rfl ?_
  have hM1 := hM.kpO hoD hpO
  obtain ⟨⟨dz, gd, hih, mih, fh, hm1⟩, -⟩ := id hM1
  have hneD : o ≠ oD := hm_ne ho hoD (fun q => by injection q with q; injection q with _ q; injection q with _ q; cases q)
  have ho1 : f1_ o = some (eJ Γ 1 g0) := hpO _ _ hneD ho rfl
  refine lv_istore (lv' := [(6, .int k_), (5, .int (nI i)), (4, .ref oD), (3, .ref o), (2, .ref m0), (1, .ref x0), (0, .ref b)]) hx hb dL_law_1615 hl (by decide) rfl (fun ls hl => ?_)
  refine lv_aload_n hx hb dL_law_1617 rfl (lv_at hl 4 rfl) ?_
  refine hm_callV (rest := []) (k := 2) q6_81 q6_82 q1_9 q6_84 q6_83 rfl nm_X8_hitShare rfl hx hb hml hown hts hK hO hS hH hl.1 hm1 (w_X8_hitShare Γ l m0 r th K kp ck msh msm mso np mon ng gs nt ts lim rf sp rr qa qb f1_ hM1 hnp hng hnt hr1 hrr hkr hrI hgs hs5 hs7 hab) ⟨by omega, by omega⟩ ⟨by omega, by omega⟩ rfl (Nat.le_of_ble_eq_true rfl) dL_law_1618 (fun v2_ f2_ H locs hq_ hH hS => ?_)
  obtain ⟨hqa, hqS⟩ := hq_
  obtain ⟨b_, rfl⟩ : ∃ x, v2_ = some (.float x) := by rcases hqa with ⟨_, h, _⟩ | ⟨_, ⟨x, h⟩, _⟩ <;> exact ⟨_, h⟩
  refine W.eq (g2 := F0 m 1621 ls [.float b_]) rfl ?_
  have hkC := hM1.kcl hqS
  have ho2 := hqS _ _ (hM1.apart ho1) ho1
  have hres : ∃ g, f2_ oD = some (eF Γ 1 g) ∧ (k_ = 0 → (if decide (qa + qb = 0) then 1 else 0 : Int32) = 0 ∧ g 0 = FP.f2d (FP.fdiv (FP.i2f (nI qa)) (FP.i2f (nI (qa + qb)))) ∧ b_ = FP.fdiv (FP.i2f msh) (FP.i2f (nI (qa + qb)))) ∧ CW Γ f2_ x0 mf E cn us so sh sm np mon ng gs nt ts lim rf sp rr ∧ MW Γ f2_ m0 r k_ K kp ck msh msm mso np mon ng gs nt ts lim rf sp rr := by
    rcases hpa with ⟨k0, e1, ⟨g, hg, hgv⟩, hN⟩ | ⟨k0, e1, ⟨g, hg⟩, hN⟩
    · rcases hqa with ⟨k1, e2, hN2⟩ | ⟨k1, -, -⟩
      · injection e1 with e1; injection e1 with e1; injection e2 with e2; injection e2 with e2
        exact ⟨g, hqS _ _ (hM1.apart hg) hg, fun _ => ⟨k0, hgv, e2⟩, hN.kpt h34 hkC, by rw [e1]; exact hN2⟩
      · exact absurd k0 k1
    · rcases hqa with ⟨k1, -, -⟩ | ⟨k1, -, hN2⟩
      · exact absurd k1 k0
      · injection e1 with e1; injection e1 with e1
        exact ⟨g, hqS _ _ (hM1.apart hg) hg, fun z => absurd (e1.symm.trans z) k0, hN.kpt h34 hkC, by rw [e1]; exact hN2⟩
  obtain ⟨g2, hD2, hg2, hC2, hM2⟩ := hres
  obtain ⟨⟨dz2, gd2, hih2, mih2, fh2, hmt⟩, -⟩ := id hM2
  refine lv_fstore (lv' := [(7, .float b_), (6, .int k_), (5, .int (nI i)), (4, .ref oD), (3, .ref o), (2, .ref m0), (1, .ref x0), (0, .ref b)]) hx hb dL_law_1621 hl (by decide) rfl (fun ls hl => ?_)
  refine lv_aload_n hx hb dL_law_1623 rfl (lv_at hl 5 rfl) ?_
  refine hm_callV (rest := []) (k := 1) q5_111 q5_112 q1_9 q5_114 q5_113 rfl nm_X8_thrown rfl hx hb hml hown hts hK hO hS hH hl.1 hmt (c_X8_thrown Γ l m0 r _ _ _ _ _ _ _ _ _ _ _ _ _ _ _ _ _ _ f2_ hmt) ⟨by omega, by omega⟩ ⟨by omega, by omega⟩ rfl (Nat.le_of_ble_eq_true rfl) dL_law_1624 (fun v_ f_ H locs hp2_ hH hS => ?_)
  obtain ⟨rfl, ef_⟩ := hp2_
  rw [ef_] at hH
  clear ef_
  refine W.eq (g2 := F0 m 1627 ls [.int k_]) rfl ?_
  refine lv_iload hx hb dL_law_1627 (lv_at hl 1 rfl) ?_
  refine lv_icmp_eq (tgt := 1634) hx hb dL_law_1629 (by decide) (fun _ => ?_) (fun c1 => absurd (rfl) c1)
  refine lv_iload hx hb dL_law_1634 (lv_at hl 1 rfl) ?_
  refine lv_if_ne (tgt := 1672) hx hb dL_law_1636 (by decide) (fun c2 => ?_) (fun c2 => ?_)
  · refine lv_goto (tgt := 1753) hx hb dL_law_1672 (by decide) ?_
    refine W.widen (k := cells + 16) (n := slots + 700) (by omega) (by omega) ?_
    exact K_ f2_ H locs ⟨_, K, kp, ck, msh, msm, mso, mf, E, cn, us, so, sh, sm, np, mon, ng, gs, nt, ts, lim, rf, sp, rr, hC2, hM2, hI.mono, hrI, ⟨g0, ho2⟩, ⟨g2, hD2⟩⟩ hH hS ls (lv_sub hl [2, 3, 4, 5, 6, 7] rfl)
  · refine lv_aload hx hb dL_law_1639 (lv_at hl 3 rfl) ?_
    refine lv_iconst (v := 0) hx hb dL_law_1641 (by decide) ?_
    refine hm_dald hx hb hK hH hD2 (by unfold vp_in; decide) dL_law_1642 ?_
    refine lv_topd (fun v3 ev3 => ?_)
    replace ev3 : v3 = (FP.f2d (FP.fdiv (FP.i2f (nI qa)) (FP.i2f (nI (qa + qb))))) := ev3.trans (by show g2 0 = _; exact (hg2 c2).2.1)
    subst ev3
    refine lv_fload hx hb dL_law_1643 (lv_at hl 0 rfl) ?_
    refine lv_f2d hx hb dL_law_1645 (by have hz_ := hg2 c2; have hK0 := hz_.1; rw [hz_.2.2, hNH]; exact nan64 (fd_nn (fl_all (by have h_ : ¬ qa + qb = 0 := fun z => absurd hK0 (by rw [decide_eq_true z]; decide); omega) (by omega) _ (fl_num _)))) ?_
    refine lv_dcmp hx hb dL_law_1646 ?_
    refine lv_if_eq (tgt := 1672) hx hb dL_law_1647 (by decide) (fun _ => ?_) (fun c4 => absurd (by have hz_ := hg2 c2; have hK0 := hz_.1; rw [hz_.2.2, hNH, show FP.dcmp (FP.f2d (FP.fdiv (FP.i2f (nI qa)) (FP.i2f (nI (qa + qb))))) (FP.f2d (FP.fdiv (FP.i2f (nI qa)) (FP.i2f (nI (qa + qb))))) = some .eq from FP.Core.dcmp_self (fd_nn (fl_all (by have h_ : ¬ qa + qb = 0 := fun z => absurd hK0 (by rw [decide_eq_true z]; decide); omega) (by omega) _ (fl_num _)))]; rfl) c4)
    refine lv_goto (tgt := 1753) hx hb dL_law_1672 (by decide) ?_
    refine W.widen (k := cells + 16) (n := slots + 700) (by omega) (by omega) ?_
    exact K_ f2_ H locs ⟨_, K, kp, ck, msh, msm, mso, mf, E, cn, us, so, sh, sm, np, mon, ng, gs, nt, ts, lim, rf, sp, rr, hC2, hM2, hI.mono, hrI, ⟨g0, ho2⟩, ⟨g2, hD2⟩⟩ hH hS ls (lv_sub hl [2, 3, 4, 5, 6, 7] rfl)
set_option maxHeartbeats 4000000 in
set_option maxRecDepth 100000 in
theorem cs_meanPrice {p : Program} {l : Launch} {e : Env} {R : Room} {s : State} {m : MethodId} {args : Array Value} {below : List Frame} {meth : Method} {c : Code} {Q : State → Prop} (Γ : Gm) (hx : p.tables.exec = Jvm.exec) (hb : c.code = cL_law) (hml : c.maxLocals = 9) (hown : s.vm.findClass "TileWardenLaw" = some m.cls) (hts : ∀ w ∈ lwG, w.before args s = true) (hK : KK Γ s) (hO : hm_O Γ s.heap) (hst : l.stackTraces = false) {b L : Nat} {xs : Nat → Int32} (hX : va_X b L xs s s.heap) (hbl : b < s.heap.size) (hbA : ¬ gA Γ b) (hRf : 400 ≤ R.frames ∧ 10000 ≤ R.locals) {x0 m0 o oD n i : Nat} {r : Nat → Nat} {f : Hm} {H : Heap} {locs : List Loc} {cells slots : Nat} (hcf : cells + 16 ≤ R.cells ∧ slots + 700 ≤ R.slots) (hJ : JS Γ f x0 m0 o oD r n) (hn : n ≤ 511) (hi : i + 4 ≤ L) (hL : L ≤ 2048) (hH : hm_H Γ f H) (hS : va_S (gA Γ) s.heap H locs) (ls : Array Slot) (hl : lv_has ls 9 [(5, .int (nI i)), (4, .ref oD), (3, .ref o), (2, .ref m0), (1, .ref x0), (0, .ref b)])
    (K_ : ∀ (f' : Hm) (H' : Heap) (locs' : List Loc), JS Γ f' x0 m0 o oD r (n + 1) → hm_H Γ f' H' → va_S (gA Γ) s.heap H' locs' → ∀ ls' : Array Slot, lv_has ls' 9 [(5, .int (nI i)), (4, .ref oD), (3, .ref o), (2, .ref m0), (1, .ref x0), (0, .ref b)] → W p l e R s m args below meth c H' locs' (cells + 16) (slots + 700) Q (F0 m 1753 ls' [])) : W p l e R s m args below meth c H locs cells slots Q (F0 m 1675 ls []) := by
  obtain ⟨th, K, kp, ck, msh, msm, mso, mf, E, cn, us, so, sh, sm, np, mon, ng, gs, nt, ts, lim, rf, sp, rr, hC, hM, hI, hrI, ⟨g0, ho⟩, ⟨gD, hoD⟩⟩ := hJ
  have h34 := hm_c34 hK
  have hgs := hI.gok (by omega)
  obtain ⟨⟨hnp, hng, hnt, hr1, hrr, hkr⟩, hIg, hdf0, hIt, hIs, ⟨⟨σ, hσ⟩, hIc, hcn, hok, hmk⟩, hrf, hmon⟩ := id hI
  have hkp : kp ≤ 64 := by omega
  have hL4 : i + 3 < L := by omega
  obtain ⟨hs1, hs2, qa, qb, hs3, hs4, hs5, hs6, hs7, hs8⟩ := hIs
  have hab : qa + qb < 2 ^ 24 := by omega
  have hNH : FP.i2d mso = FP.i2d (nI nt) := by rw [hs1]
  refine lv_aload_n hx hb dL_law_1675 rfl (lv_at hl 4 rfl) ?_
  refine lv_aload hx hb dL_law_1676 (lv_at hl 1 rfl) ?_
  refine hm_callSW (rest := []) (k := 3) q4_195 q4_196 q1_0 q4_197 nm_L_meanPrice rfl hx hb hml hown hts hK hO hS hH hl.1 (l_meanPrice Γ l x0 mf E cn us so sh sm np mon ng gs nt ts lim rf sp rr oD gD  f hst hC hnp hng hnt hr1 hrr hgs hs2 hoD) ⟨by omega, by omega⟩ ⟨by omega, by omega⟩ rfl (Nat.le_of_ble_eq_true rfl) dL_law_1678 (fun v1_ f1_ H locs hp_ hH hS => ?_)
  obtain ⟨hpa, hpO⟩ := hp_
  obtain ⟨k_, rfl⟩ : ∃ x, v1_ = some (.int x) := by rcases hpa with ⟨_, h, _⟩ | ⟨_, h, _⟩ <;> exact ⟨_, h⟩
  refine W.eq (g2 := F0 m 1681 ls [.int k_]) rfl ?_
  have hM1 := hM.kpO hoD hpO
  obtain ⟨⟨dz, gd, hih, mih, fh, hm1⟩, -⟩ := id hM1
  have hneD : o ≠ oD := hm_ne ho hoD (fun q => by injection q with q; injection q with _ q; injection q with _ q; cases q)
  have ho1 : f1_ o = some (eJ Γ 1 g0) := hpO _ _ hneD ho rfl
  refine lv_istore (lv' := [(6, .int k_), (5, .int (nI i)), (4, .ref oD), (3, .ref o), (2, .ref m0), (1, .ref x0), (0, .ref b)]) hx hb dL_law_1681 hl (by decide) rfl (fun ls hl => ?_)
  refine lv_aload_n hx hb dL_law_1683 rfl (lv_at hl 4 rfl) ?_
  refine hm_callV (rest := []) (k := 3) q6_89 q6_90 q1_9 q6_92 q6_91 rfl nm_X8_meanPrice rfl hx hb hml hown hts hK hO hS hH hl.1 hm1 (w_X8_meanPrice Γ l m0 r th K kp ck msh msm mso np mon ng gs nt ts lim rf sp rr  f1_ hM1 hnp hng hnt hr1 hrr hkr hrI hgs hs1) ⟨by omega, by omega⟩ ⟨by omega, by omega⟩ rfl (Nat.le_of_ble_eq_true rfl) dL_law_1684 (fun v2_ f2_ H locs hq_ hH hS => ?_)
  obtain ⟨hqa, hqS⟩ := hq_
  obtain ⟨b_, rfl⟩ : ∃ x, v2_ = some (.double x) := by rcases hqa with ⟨_, h, _⟩ | ⟨_, ⟨x, h⟩, _⟩ <;> exact ⟨_, h⟩
  refine W.eq (g2 := F0 m 1687 ls [.double b_]) rfl ?_
  have hkC := hM1.kcl hqS
  have ho2 := hqS _ _ (hM1.apart ho1) ho1
  have hres : ∃ g, f2_ oD = some (eF Γ 1 g) ∧ (k_ = 0 → (if decide (0 < nt) then 0 else 1 : Int32) = 0 ∧ g 0 = (FP.ddiv (FP.l2d sp) (FP.i2d (nI nt))) ∧ b_ = FP.ddiv (FP.l2d sp) (FP.i2d mso)) ∧ CW Γ f2_ x0 mf E cn us so sh sm np mon ng gs nt ts lim rf sp rr ∧ MW Γ f2_ m0 r k_ K kp ck msh msm mso np mon ng gs nt ts lim rf sp rr := by
    rcases hpa with ⟨k0, e1, ⟨g, hg, hgv⟩, hN⟩ | ⟨k0, e1, ⟨g, hg⟩, hN⟩
    · rcases hqa with ⟨k1, e2, hN2⟩ | ⟨k1, -, -⟩
      · injection e1 with e1; injection e1 with e1; injection e2 with e2; injection e2 with e2
        exact ⟨g, hqS _ _ (hM1.apart hg) hg, fun _ => ⟨k0, hgv, e2⟩, hN.kpt h34 hkC, by rw [e1]; exact hN2⟩
      · exact absurd k0 k1
    · rcases hqa with ⟨k1, -, -⟩ | ⟨k1, -, hN2⟩
      · exact absurd k1 k0
      · injection e1 with e1; injection e1 with e1
        exact ⟨g, hqS _ _ (hM1.apart hg) hg, fun z => absurd (e1.symm.trans z) k0, hN.kpt h34 hkC, by rw [e1]; exact hN2⟩
  obtain ⟨g2, hD2, hg2, hC2, hM2⟩ := hres
  obtain ⟨⟨dz2, gd2, hih2, mih2, fh2, hmt⟩, -⟩ := id hM2
  refine lv_dstore (lv' := [(7, .double b_), (6, .int k_), (5, .int (nI i)), (4, .ref oD), (3, .ref o), (2, .ref m0), (1, .ref x0), (0, .ref b)]) hx hb dL_law_1687 hl (by decide) rfl (fun ls hl => ?_)
  refine lv_aload_n hx hb dL_law_1689 rfl (lv_at hl 5 rfl) ?_
  refine hm_callV (rest := []) (k := 1) q5_111 q5_112 q1_9 q5_114 q5_113 rfl nm_X8_thrown rfl hx hb hml hown hts hK hO hS hH hl.1 hmt (c_X8_thrown Γ l m0 r _ _ _ _ _ _ _ _ _ _ _ _ _ _ _ _ _ _ f2_ hmt) ⟨by omega, by omega⟩ ⟨by omega, by omega⟩ rfl (Nat.le_of_ble_eq_true rfl) dL_law_1690 (fun v_ f_ H locs hp2_ hH hS => ?_)
  obtain ⟨rfl, ef_⟩ := hp2_
  rw [ef_] at hH
  clear ef_
  refine W.eq (g2 := F0 m 1693 ls [.int k_]) rfl ?_
  refine lv_iload hx hb dL_law_1693 (lv_at hl 1 rfl) ?_
  refine lv_icmp_eq (tgt := 1700) hx hb dL_law_1695 (by decide) (fun _ => ?_) (fun c1 => absurd (rfl) c1)
  refine lv_iload hx hb dL_law_1700 (lv_at hl 1 rfl) ?_
  refine lv_if_ne (tgt := 1737) hx hb dL_law_1702 (by decide) (fun c2 => ?_) (fun c2 => ?_)
  · refine lv_goto (tgt := 1753) hx hb dL_law_1737 (by decide) ?_
    refine W.widen (k := cells + 16) (n := slots + 700) (by omega) (by omega) ?_
    exact K_ f2_ H locs ⟨_, K, kp, ck, msh, msm, mso, mf, E, cn, us, so, sh, sm, np, mon, ng, gs, nt, ts, lim, rf, sp, rr, hC2, hM2, hI.mono, hrI, ⟨g0, ho2⟩, ⟨g2, hD2⟩⟩ hH hS ls (lv_sub hl [2, 3, 4, 5, 6, 7] rfl)
  · refine lv_aload hx hb dL_law_1705 (lv_at hl 3 rfl) ?_
    refine lv_iconst (v := 0) hx hb dL_law_1707 (by decide) ?_
    refine hm_dald hx hb hK hH hD2 (by unfold vp_in; decide) dL_law_1708 ?_
    refine lv_topd (fun v3 ev3 => ?_)
    replace ev3 : v3 = ((FP.ddiv (FP.l2d sp) (FP.i2d (nI nt)))) := ev3.trans (by show g2 0 = _; exact (hg2 c2).2.1)
    subst ev3
    refine lv_dload hx hb dL_law_1709 (lv_at hl 0 rfl) ?_
    refine lv_dcmp hx hb dL_law_1711 ?_
    refine lv_if_eq (tgt := 1737) hx hb dL_law_1712 (by decide) (fun _ => ?_) (fun c4 => absurd (by have hz_ := hg2 c2; have hK0 := hz_.1; rw [hz_.2.2, hNH, show FP.dcmp ((FP.ddiv (FP.l2d sp) (FP.i2d (nI nt)))) ((FP.ddiv (FP.l2d sp) (FP.i2d (nI nt)))) = some .eq from FP.Core.dcmp_self (dl_all (by have h_ : 0 < nt := Nat.pos_of_ne_zero (fun z => absurd hK0 (by rw [decide_eq_false (by omega)]; decide)); exact h_) (by omega) _ (dl_num _))]; rfl) c4)
    refine lv_goto (tgt := 1753) hx hb dL_law_1737 (by decide) ?_
    refine W.widen (k := cells + 16) (n := slots + 700) (by omega) (by omega) ?_
    exact K_ f2_ H locs ⟨_, K, kp, ck, msh, msm, mso, mf, E, cn, us, so, sh, sm, np, mon, ng, gs, nt, ts, lim, rf, sp, rr, hC2, hM2, hI.mono, hrI, ⟨g0, ho2⟩, ⟨g2, hD2⟩⟩ hH hS ls (lv_sub hl [2, 3, 4, 5, 6, 7] rfl)
