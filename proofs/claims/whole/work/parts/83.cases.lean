/-! the law's cases -/
theorem wP.val {k a : Int32} {Γ : Gm} {o : Nat} {f f' : Hm} {N O : Hm → Prop} {v : Option Value} (h : wP k a Γ o f N O v f') : ∃ x, v = some (.int x) := by
  rcases h.1 with ⟨_, h, _⟩ | ⟨_, h, _⟩ <;> exact ⟨_, h⟩
theorem mP.val {k a : Int32} {S : Nat → Prop} {f f' : Hm} {N O : Hm → Prop} {v : Option Value} (h : mP k a S f N O v f') : ∃ x, v = some (.int x) := by
  rcases h.1 with ⟨_, h, _⟩ | ⟨_, ⟨x, h⟩, _⟩ <;> exact ⟨_, h⟩
theorem wP.zero {k a x : Int32} {Γ : Gm} {o : Nat} {f f' : Hm} {N O : Hm → Prop} (h : wP k a Γ o f N O (some (.int x)) f') (hx : x = 0) : k = 0 := by
  rcases h.1 with ⟨h, _, _⟩ | ⟨_, h, _⟩
  · exact h
  · injection h with h
    injection h with h
    rw [← h]; exact hx
theorem mP.bool {k x : Int32} {B : Bool} {S : Nat → Prop} {f f' : Hm} {N O : Hm → Prop} (h : mP k (bI B) S f N O (some (.int x)) f') (hk : k = 0) : x = bI B := by
  rcases h.1 with ⟨_, h, _⟩ | ⟨h, _⟩
  · injection h with h
    injection h with h
  · exact absurd hk h
set_option maxHeartbeats 4000000 in
set_option maxRecDepth 100000 in
theorem cs_addPlayer {p : Program} {l : Launch} {e : Env} {R : Room} {s : State} {m : MethodId} {args : Array Value} {below : List Frame} {meth : Method} {c : Code} {Q : State → Prop} (Γ : Gm) (hx : p.tables.exec = Jvm.exec) (hb : c.code = cL_law) (hml : c.maxLocals = 9) (hown : s.vm.findClass "TileWardenLaw" = some m.cls) (hts : ∀ w ∈ lwG, w.before args s = true) (hK : KK Γ s) (hO : hm_O Γ s.heap) (hst : l.stackTraces = false) {b L : Nat} {xs : Nat → Int32} (hX : va_X b L xs s s.heap) (hbl : b < s.heap.size) (hbA : ¬ gA Γ b) (hRf : 400 ≤ R.frames ∧ 10000 ≤ R.locals) {x0 m0 o oD n i : Nat} {r : Nat → Nat} {f : Hm} {H : Heap} {locs : List Loc} {cells slots : Nat} (hcf : cells + 16 ≤ R.cells ∧ slots + 700 ≤ R.slots) (hJ : JS Γ f x0 m0 o oD r n) (hn : n ≤ 511) (hi : i + 4 ≤ L) (hL : L ≤ 2048) (hH : hm_H Γ f H) (hS : va_S (gA Γ) s.heap H locs) (ls : Array Slot) (hl : lv_has ls 9 [(5, .int (nI i)), (4, .ref oD), (3, .ref o), (2, .ref m0), (1, .ref x0), (0, .ref b)])
    (K_ : ∀ (f' : Hm) (H' : Heap) (locs' : List Loc), JS Γ f' x0 m0 o oD r (n + 1) → hm_H Γ f' H' → va_S (gA Γ) s.heap H' locs' → ∀ ls' : Array Slot, lv_has ls' 9 [(5, .int (nI i)), (4, .ref oD), (3, .ref o), (2, .ref m0), (1, .ref x0), (0, .ref b)] → W p l e R s m args below meth c H' locs' (cells + 16) (slots + 700) Q (F0 m 1753 ls' [])) : W p l e R s m args below meth c H locs cells slots Q (F0 m 176 ls []) := by
  obtain ⟨th, K, kp, ck, msh, msm, mso, mf, E, cn, us, so, sh, sm, np, mon, ng, gs, nt, ts, lim, rf, sp, rr, hC, hM, hI, hrI, ⟨g0, ho⟩, ⟨gD, hoD⟩⟩ := hJ
  have h34 := hm_c34 hK
  have hgs := hI.gok (by omega)
  obtain ⟨⟨hnp, hng, hnt, hr1, hrr, hkr⟩, hIg, hdf0, hIt, hIs, ⟨⟨σ, hσ⟩, hIc, hcn, hok, hmk⟩, hrf, hmon⟩ := id hI
  have hkp : kp ≤ 64 := by omega
  have hL4 : i + 3 < L := by omega
  refine lv_aload_n hx hb dL_law_176 rfl (lv_at hl 4 rfl) ?_
  refine lv_aload_n hx hb dL_law_177 rfl (lv_at hl 5 rfl) ?_
  refine lv_iload hx hb dL_law_178 (lv_at hl 0 rfl) ?_
  refine lv_iconst (v := 1) hx hb dL_law_180 (by decide) ?_
  refine lv_iadd hx hb dL_law_181 ?_
  refine lv_topi (fun v1 ev1 => ?_)
  replace ev1 : v1 = nI (i + 1) := ev1.trans (nI_add _ 1)
  subst ev1
  refine va_sld hx hb hX hbl hbA hS (vp_in_nI (by omega) (by omega)) dL_law_182 ?_
  refine lv_topi (fun a2 ea2 => ?_)
  refine lv_aload_n hx hb dL_law_183 rfl (lv_at hl 2 rfl) ?_
  refine hm_callSW (rest := []) (k := 8) q2_86 q2_87 q1_0 q2_88 nm_L_addPlayer rfl hx hb hml hown hts hK hO hS hH hl.1 (l_addPlayer Γ l x0 mf E cn us so sh sm np mon ng gs nt ts lim rf sp rr o g0 a2 f hst hC hnp hng hnt hr1 hrr hgs  ho) ⟨by omega, by omega⟩ ⟨by omega, by omega⟩ rfl (Nat.le_of_ble_eq_true rfl) dL_law_184 (fun v1_ f1_ H locs hp_ hH hS => ?_)
  obtain ⟨k_, rfl⟩ := wP.val hp_
  refine W.eq (g2 := F0 m 187 ls [.int k_]) rfl ?_
  have hM1 := hM.kpO ho hp_.2
  obtain ⟨⟨dz, gd, hih, mih, fh, hm1⟩, -⟩ := id hM1
  refine lv_istore (lv' := [(6, .int k_), (5, .int (nI i)), (4, .ref oD), (3, .ref o), (2, .ref m0), (1, .ref x0), (0, .ref b)]) hx hb dL_law_187 hl (by decide) rfl (fun ls hl => ?_)
  refine lv_aload_n hx hb dL_law_189 rfl (lv_at hl 4 rfl) ?_
  refine lv_aload_n hx hb dL_law_190 rfl (lv_at hl 6 rfl) ?_
  refine lv_iload hx hb dL_law_191 (lv_at hl 1 rfl) ?_
  refine lv_iconst (v := 1) hx hb dL_law_193 (by decide) ?_
  refine lv_iadd hx hb dL_law_194 ?_
  refine lv_topi (fun v3 ev3 => ?_)
  replace ev3 : v3 = nI (i + 1) := ev3.trans (nI_add _ 1)
  subst ev3
  refine va_sld hx hb hX hbl hbA hS (vp_in_nI (by omega) (by omega)) dL_law_195 ?_
  refine lv_topi (fun a4 ea4 => ?_)
  replace ea4 : a4 = a2 := ea4.trans ea2.symm
  rw [ea4]
  refine hm_callV (rest := []) (k := 2) q5_115 q5_116 q1_9 q5_118 q5_117 rfl nm_X8_addPlayer rfl hx hb hml hown hts hK hO hS hH hl.1 hm1 (w_X8_addPlayer Γ l m0 r th K kp ck msh msm mso np mon ng gs nt ts lim rf sp rr a2 f1_ hM1 hnp hng hnt hr1 hrr hkr hrI hgs ) ⟨by omega, by omega⟩ ⟨by omega, by omega⟩ rfl (Nat.le_of_ble_eq_true rfl) dL_law_196 (fun v2_ f2_ H locs hq_ hH hS => ?_)
  obtain ⟨b_, rfl⟩ := mP.val hq_
  refine W.eq (g2 := F0 m 199 ls [.int b_]) rfl ?_
  obtain ⟨k2, b2, e1_, e2_, hR⟩ := j_addPlayer h34 hn hI hM hrI ho hoD hp_ hq_
  cases e1_
  cases e2_
  obtain ⟨⟨y1, y2, y3, y4, y5, y6, y7, y8, y9, y10, y11, y12, y13, y14, y15, y16, y17, hmt⟩, ⟨g2, ho2, hg2⟩, hJ2⟩ := hR
  refine lv_istore (lv' := [(7, .int b_), (6, .int k_), (5, .int (nI i)), (4, .ref oD), (3, .ref o), (2, .ref m0), (1, .ref x0), (0, .ref b)]) hx hb dL_law_199 hl (by decide) rfl (fun ls hl => ?_)
  refine lv_aload_n hx hb dL_law_201 rfl (lv_at hl 5 rfl) ?_
  refine hm_callV (rest := []) (k := 1) q5_111 q5_112 q1_9 q5_114 q5_113 rfl nm_X8_thrown rfl hx hb hml hown hts hK hO hS hH hl.1 hmt (c_X8_thrown Γ l m0 r _ _ _ _ _ _ _ _ _ _ _ _ _ _ _ _ _ _ f2_ hmt) ⟨by omega, by omega⟩ ⟨by omega, by omega⟩ rfl (Nat.le_of_ble_eq_true rfl) dL_law_202 (fun v_ f_ H locs hp2_ hH hS => ?_)
  obtain ⟨rfl, ef_⟩ := hp2_
  rw [ef_] at hH
  clear ef_
  refine W.eq (g2 := F0 m 205 ls [.int k_]) rfl ?_
  refine lv_iload hx hb dL_law_205 (lv_at hl 1 rfl) ?_
  refine lv_icmp_eq (tgt := 212) hx hb dL_law_207 (by decide) (fun _ => ?_) (fun c5 => absurd (rfl) c5)
  refine lv_iload hx hb dL_law_212 (lv_at hl 1 rfl) ?_
  refine lv_if_ne (tgt := 229) hx hb dL_law_214 (by decide) (fun c6 => ?_) (fun c6 => ?_)
  · refine lv_goto (tgt := 1753) hx hb dL_law_229 (by decide) ?_
    refine W.widen (k := cells + 16) (n := slots + 700) (by omega) (by omega) ?_
    exact K_ f2_ H locs hJ2 hH hS ls (lv_sub hl [2, 3, 4, 5, 6, 7] rfl)
  · refine lv_aload_n hx hb dL_law_217 rfl (lv_at hl 4 rfl) ?_
    refine lv_iconst (v := 0) hx hb dL_law_218 (by decide) ?_
    refine hm_lald hx hb hK hH ho2 (by unfold vp_in; decide) dL_law_219 ?_
    refine lv_topl (fun v7 ev7 => ?_)
    replace ev7 : v7 = ((b_).toInt64) := ev7.trans (by show g2 0 = _; exact hg2 c6)
    subst ev7
    refine lv_iload hx hb dL_law_220 (lv_at hl 0 rfl) ?_
    refine lv_i2l hx hb dL_law_222 rfl ?_
    refine lv_topl (fun v8 ev8 => ?_)
    replace ev8 : v8 = ((b_).toInt64) := ev8.trans (rfl)
    subst ev8
    refine W.lcmp hx hb dL_law_223 ?_
    refine lv_if_eq (tgt := 229) hx hb dL_law_224 (by decide) (fun _ => ?_) (fun c10 => absurd (m_cmp.mpr rfl) c10)
    refine lv_goto (tgt := 1753) hx hb dL_law_229 (by decide) ?_
    refine W.widen (k := cells + 16) (n := slots + 700) (by omega) (by omega) ?_
    exact K_ f2_ H locs hJ2 hH hS ls (lv_sub hl [2, 3, 4, 5, 6, 7] rfl)
set_option maxHeartbeats 4000000 in
set_option maxRecDepth 100000 in
theorem cs_open {p : Program} {l : Launch} {e : Env} {R : Room} {s : State} {m : MethodId} {args : Array Value} {below : List Frame} {meth : Method} {c : Code} {Q : State → Prop} (Γ : Gm) (hx : p.tables.exec = Jvm.exec) (hb : c.code = cL_law) (hml : c.maxLocals = 9) (hown : s.vm.findClass "TileWardenLaw" = some m.cls) (hts : ∀ w ∈ lwG, w.before args s = true) (hK : KK Γ s) (hO : hm_O Γ s.heap) (hst : l.stackTraces = false) {b L : Nat} {xs : Nat → Int32} (hX : va_X b L xs s s.heap) (hbl : b < s.heap.size) (hbA : ¬ gA Γ b) (hRf : 400 ≤ R.frames ∧ 10000 ≤ R.locals) {x0 m0 o oD n i : Nat} {r : Nat → Nat} {f : Hm} {H : Heap} {locs : List Loc} {cells slots : Nat} (hcf : cells + 16 ≤ R.cells ∧ slots + 700 ≤ R.slots) (hJ : JS Γ f x0 m0 o oD r n) (hn : n ≤ 511) (hi : i + 4 ≤ L) (hL : L ≤ 2048) (hH : hm_H Γ f H) (hS : va_S (gA Γ) s.heap H locs) (ls : Array Slot) (hl : lv_has ls 9 [(5, .int (nI i)), (4, .ref oD), (3, .ref o), (2, .ref m0), (1, .ref x0), (0, .ref b)])
    (K_ : ∀ (f' : Hm) (H' : Heap) (locs' : List Loc), JS Γ f' x0 m0 o oD r (n + 1) → hm_H Γ f' H' → va_S (gA Γ) s.heap H' locs' → ∀ ls' : Array Slot, lv_has ls' 9 [(5, .int (nI i)), (4, .ref oD), (3, .ref o), (2, .ref m0), (1, .ref x0), (0, .ref b)] → W p l e R s m args below meth c H' locs' (cells + 16) (slots + 700) Q (F0 m 1753 ls' [])) : W p l e R s m args below meth c H locs cells slots Q (F0 m 232 ls []) := by
  obtain ⟨th, K, kp, ck, msh, msm, mso, mf, E, cn, us, so, sh, sm, np, mon, ng, gs, nt, ts, lim, rf, sp, rr, hC, hM, hI, hrI, ⟨g0, ho⟩, ⟨gD, hoD⟩⟩ := hJ
  have h34 := hm_c34 hK
  have hgs := hI.gok (by omega)
  obtain ⟨⟨hnp, hng, hnt, hr1, hrr, hkr⟩, hIg, hdf0, hIt, hIs, ⟨⟨σ, hσ⟩, hIc, hcn, hok, hmk⟩, hrf, hmon⟩ := id hI
  have hkp : kp ≤ 64 := by omega
  have hL4 : i + 3 < L := by omega
  refine lv_aload_n hx hb dL_law_232 rfl (lv_at hl 4 rfl) ?_
  refine lv_aload_n hx hb dL_law_233 rfl (lv_at hl 5 rfl) ?_
  refine lv_iload hx hb dL_law_234 (lv_at hl 0 rfl) ?_
  refine lv_iconst (v := 1) hx hb dL_law_236 (by decide) ?_
  refine lv_iadd hx hb dL_law_237 ?_
  refine lv_topi (fun v1 ev1 => ?_)
  replace ev1 : v1 = nI (i + 1) := ev1.trans (nI_add _ 1)
  subst ev1
  refine va_sld hx hb hX hbl hbA hS (vp_in_nI (by omega) (by omega)) dL_law_238 ?_
  refine lv_topi (fun a2 ea2 => ?_)
  refine lv_aload_n hx hb dL_law_239 rfl (lv_at hl 5 rfl) ?_
  refine lv_iload hx hb dL_law_240 (lv_at hl 0 rfl) ?_
  refine lv_iconst (v := 2) hx hb dL_law_242 (by decide) ?_
  refine lv_iadd hx hb dL_law_243 ?_
  refine lv_topi (fun v3 ev3 => ?_)
  replace ev3 : v3 = nI (i + 2) := ev3.trans (nI_add _ 2)
  subst ev3
  refine va_sld hx hb hX hbl hbA hS (vp_in_nI (by omega) (by omega)) dL_law_244 ?_
  refine lv_topi (fun a4 ea4 => ?_)
  refine lv_aload_n hx hb dL_law_245 rfl (lv_at hl 2 rfl) ?_
  refine hm_callSW (rest := []) (k := 8) q3_23 q3_24 q1_0 q3_25 nm_L_open rfl hx hb hml hown hts hK hO hS hH hl.1 (l_open Γ l x0 mf E cn us so sh sm np mon ng gs nt ts lim rf sp rr o g0 a2 a4 f hst hC hnp hng hnt hr1 hrr hgs  ho) ⟨by omega, by omega⟩ ⟨by omega, by omega⟩ rfl (Nat.le_of_ble_eq_true rfl) dL_law_246 (fun v1_ f1_ H locs hp_ hH hS => ?_)
  obtain ⟨k_, rfl⟩ := wP.val hp_
  refine W.eq (g2 := F0 m 249 ls [.int k_]) rfl ?_
  have hM1 := hM.kpO ho hp_.2
  obtain ⟨⟨dz, gd, hih, mih, fh, hm1⟩, -⟩ := id hM1
  refine lv_istore (lv' := [(6, .int k_), (5, .int (nI i)), (4, .ref oD), (3, .ref o), (2, .ref m0), (1, .ref x0), (0, .ref b)]) hx hb dL_law_249 hl (by decide) rfl (fun ls hl => ?_)
  refine lv_aload_n hx hb dL_law_251 rfl (lv_at hl 4 rfl) ?_
  refine lv_aload_n hx hb dL_law_252 rfl (lv_at hl 6 rfl) ?_
  refine lv_iload hx hb dL_law_253 (lv_at hl 1 rfl) ?_
  refine lv_iconst (v := 1) hx hb dL_law_255 (by decide) ?_
  refine lv_iadd hx hb dL_law_256 ?_
  refine lv_topi (fun v5 ev5 => ?_)
  replace ev5 : v5 = nI (i + 1) := ev5.trans (nI_add _ 1)
  subst ev5
  refine va_sld hx hb hX hbl hbA hS (vp_in_nI (by omega) (by omega)) dL_law_257 ?_
  refine lv_topi (fun a6 ea6 => ?_)
  replace ea6 : a6 = a2 := ea6.trans ea2.symm
  rw [ea6]
  refine lv_aload_n hx hb dL_law_258 rfl (lv_at hl 6 rfl) ?_
  refine lv_iload hx hb dL_law_259 (lv_at hl 1 rfl) ?_
  refine lv_iconst (v := 2) hx hb dL_law_261 (by decide) ?_
  refine lv_iadd hx hb dL_law_262 ?_
  refine lv_topi (fun v7 ev7 => ?_)
  replace ev7 : v7 = nI (i + 2) := ev7.trans (nI_add _ 2)
  subst ev7
  refine va_sld hx hb hX hbl hbA hS (vp_in_nI (by omega) (by omega)) dL_law_263 ?_
  refine lv_topi (fun a8 ea8 => ?_)
  replace ea8 : a8 = a4 := ea8.trans ea4.symm
  rw [ea8]
  refine hm_callV (rest := []) (k := 3) q5_123 q5_124 q1_9 q5_126 q5_125 rfl nm_X8_open rfl hx hb hml hown hts hK hO hS hH hl.1 hm1 (w_X8_open Γ l m0 r th K kp ck msh msm mso np mon ng gs nt ts lim rf sp rr a2 a4 f1_ hM1 hnp hng hnt hr1 hrr hkr hrI hgs hdf0) ⟨by omega, by omega⟩ ⟨by omega, by omega⟩ rfl (Nat.le_of_ble_eq_true rfl) dL_law_264 (fun v2_ f2_ H locs hq_ hH hS => ?_)
  obtain ⟨b_, rfl⟩ := mP.val hq_
  refine W.eq (g2 := F0 m 267 ls [.int b_]) rfl ?_
  obtain ⟨k2, b2, e1_, e2_, hR⟩ := j_open h34 hn hI hM hrI ho hoD hp_ hq_
  cases e1_
  cases e2_
  obtain ⟨⟨y1, y2, y3, y4, y5, y6, y7, y8, y9, y10, y11, y12, y13, y14, y15, y16, y17, hmt⟩, ⟨g2, ho2, hg2⟩, hJ2⟩ := hR
  refine lv_istore (lv' := [(7, .int b_), (6, .int k_), (5, .int (nI i)), (4, .ref oD), (3, .ref o), (2, .ref m0), (1, .ref x0), (0, .ref b)]) hx hb dL_law_267 hl (by decide) rfl (fun ls hl => ?_)
  refine lv_aload_n hx hb dL_law_269 rfl (lv_at hl 5 rfl) ?_
  refine hm_callV (rest := []) (k := 1) q5_111 q5_112 q1_9 q5_114 q5_113 rfl nm_X8_thrown rfl hx hb hml hown hts hK hO hS hH hl.1 hmt (c_X8_thrown Γ l m0 r _ _ _ _ _ _ _ _ _ _ _ _ _ _ _ _ _ _ f2_ hmt) ⟨by omega, by omega⟩ ⟨by omega, by omega⟩ rfl (Nat.le_of_ble_eq_true rfl) dL_law_270 (fun v_ f_ H locs hp2_ hH hS => ?_)
  obtain ⟨rfl, ef_⟩ := hp2_
  rw [ef_] at hH
  clear ef_
  refine W.eq (g2 := F0 m 273 ls [.int k_]) rfl ?_
  refine lv_iload hx hb dL_law_273 (lv_at hl 1 rfl) ?_
  refine lv_icmp_eq (tgt := 280) hx hb dL_law_275 (by decide) (fun _ => ?_) (fun c9 => absurd (rfl) c9)
  refine lv_iload hx hb dL_law_280 (lv_at hl 1 rfl) ?_
  refine lv_if_ne (tgt := 297) hx hb dL_law_282 (by decide) (fun c10 => ?_) (fun c10 => ?_)
  · refine lv_goto (tgt := 1753) hx hb dL_law_297 (by decide) ?_
    refine W.widen (k := cells + 16) (n := slots + 700) (by omega) (by omega) ?_
    exact K_ f2_ H locs hJ2 hH hS ls (lv_sub hl [2, 3, 4, 5, 6, 7] rfl)
  · refine lv_aload_n hx hb dL_law_285 rfl (lv_at hl 4 rfl) ?_
    refine lv_iconst (v := 0) hx hb dL_law_286 (by decide) ?_
    refine hm_lald hx hb hK hH ho2 (by unfold vp_in; decide) dL_law_287 ?_
    refine lv_topl (fun v11 ev11 => ?_)
    replace ev11 : v11 = ((b_).toInt64) := ev11.trans (by show g2 0 = _; exact hg2 c10)
    subst ev11
    refine lv_iload hx hb dL_law_288 (lv_at hl 0 rfl) ?_
    refine lv_i2l hx hb dL_law_290 rfl ?_
    refine lv_topl (fun v12 ev12 => ?_)
    replace ev12 : v12 = ((b_).toInt64) := ev12.trans (rfl)
    subst ev12
    refine W.lcmp hx hb dL_law_291 ?_
    refine lv_if_eq (tgt := 297) hx hb dL_law_292 (by decide) (fun _ => ?_) (fun c14 => absurd (m_cmp.mpr rfl) c14)
    refine lv_goto (tgt := 1753) hx hb dL_law_297 (by decide) ?_
    refine W.widen (k := cells + 16) (n := slots + 700) (by omega) (by omega) ?_
    exact K_ f2_ H locs hJ2 hH hS ls (lv_sub hl [2, 3, 4, 5, 6, 7] rfl)
set_option maxHeartbeats 4000000 in
set_option maxRecDepth 100000 in
theorem cs_push {p : Program} {l : Launch} {e : Env} {R : Room} {s : State} {m : MethodId} {args : Array Value} {below : List Frame} {meth : Method} {c : Code} {Q : State → Prop} (Γ : Gm) (hx : p.tables.exec = Jvm.exec) (hb : c.code = cL_law) (hml : c.maxLocals = 9) (hown : s.vm.findClass "TileWardenLaw" = some m.cls) (hts : ∀ w ∈ lwG, w.before args s = true) (hK : KK Γ s) (hO : hm_O Γ s.heap) (hst : l.stackTraces = false) {b L : Nat} {xs : Nat → Int32} (hX : va_X b L xs s s.heap) (hbl : b < s.heap.size) (hbA : ¬ gA Γ b) (hRf : 400 ≤ R.frames ∧ 10000 ≤ R.locals) {x0 m0 o oD n i : Nat} {r : Nat → Nat} {f : Hm} {H : Heap} {locs : List Loc} {cells slots : Nat} (hcf : cells + 16 ≤ R.cells ∧ slots + 700 ≤ R.slots) (hJ : JS Γ f x0 m0 o oD r n) (hn : n ≤ 511) (hi : i + 4 ≤ L) (hL : L ≤ 2048) (hH : hm_H Γ f H) (hS : va_S (gA Γ) s.heap H locs) (ls : Array Slot) (hl : lv_has ls 9 [(5, .int (nI i)), (4, .ref oD), (3, .ref o), (2, .ref m0), (1, .ref x0), (0, .ref b)])
    (K_ : ∀ (f' : Hm) (H' : Heap) (locs' : List Loc), JS Γ f' x0 m0 o oD r (n + 1) → hm_H Γ f' H' → va_S (gA Γ) s.heap H' locs' → ∀ ls' : Array Slot, lv_has ls' 9 [(5, .int (nI i)), (4, .ref oD), (3, .ref o), (2, .ref m0), (1, .ref x0), (0, .ref b)] → W p l e R s m args below meth c H' locs' (cells + 16) (slots + 700) Q (F0 m 1753 ls' [])) : W p l e R s m args below meth c H locs cells slots Q (F0 m 300 ls []) := by
  obtain ⟨th, K, kp, ck, msh, msm, mso, mf, E, cn, us, so, sh, sm, np, mon, ng, gs, nt, ts, lim, rf, sp, rr, hC, hM, hI, hrI, ⟨g0, ho⟩, ⟨gD, hoD⟩⟩ := hJ
  have h34 := hm_c34 hK
  have hgs := hI.gok (by omega)
  obtain ⟨⟨hnp, hng, hnt, hr1, hrr, hkr⟩, hIg, hdf0, hIt, hIs, ⟨⟨σ, hσ⟩, hIc, hcn, hok, hmk⟩, hrf, hmon⟩ := id hI
  have hkp : kp ≤ 64 := by omega
  have hL4 : i + 3 < L := by omega
  refine lv_aload_n hx hb dL_law_300 rfl (lv_at hl 4 rfl) ?_
  refine lv_aload_n hx hb dL_law_301 rfl (lv_at hl 5 rfl) ?_
  refine lv_iload hx hb dL_law_302 (lv_at hl 0 rfl) ?_
  refine lv_iconst (v := 1) hx hb dL_law_304 (by decide) ?_
  refine lv_iadd hx hb dL_law_305 ?_
  refine lv_topi (fun v1 ev1 => ?_)
  replace ev1 : v1 = nI (i + 1) := ev1.trans (nI_add _ 1)
  subst ev1
  refine va_sld hx hb hX hbl hbA hS (vp_in_nI (by omega) (by omega)) dL_law_306 ?_
  refine lv_topi (fun a2 ea2 => ?_)
  refine lv_aload_n hx hb dL_law_307 rfl (lv_at hl 5 rfl) ?_
  refine lv_iload hx hb dL_law_308 (lv_at hl 0 rfl) ?_
  refine lv_iconst (v := 2) hx hb dL_law_310 (by decide) ?_
  refine lv_iadd hx hb dL_law_311 ?_
  refine lv_topi (fun v3 ev3 => ?_)
  replace ev3 : v3 = nI (i + 2) := ev3.trans (nI_add _ 2)
  subst ev3
  refine va_sld hx hb hX hbl hbA hS (vp_in_nI (by omega) (by omega)) dL_law_312 ?_
  refine lv_topi (fun a4 ea4 => ?_)
  refine lv_aload_n hx hb dL_law_313 rfl (lv_at hl 2 rfl) ?_
  refine hm_callSW (rest := []) (k := 9) q3_123 q3_124 q1_0 q3_125 nm_L_push rfl hx hb hml hown hts hK hO hS hH hl.1 (l_push Γ l x0 mf E cn us so sh sm np mon ng gs nt ts lim rf sp rr o g0 a2 a4 f hst hC hnp hng hnt hr1 hrr hgs  ho) ⟨by omega, by omega⟩ ⟨by omega, by omega⟩ rfl (Nat.le_of_ble_eq_true rfl) dL_law_314 (fun v1_ f1_ H locs hp_ hH hS => ?_)
  obtain ⟨k_, rfl⟩ := wP.val hp_
  refine W.eq (g2 := F0 m 317 ls [.int k_]) rfl ?_
  have hM1 := hM.kpO ho hp_.2
  obtain ⟨⟨dz, gd, hih, mih, fh, hm1⟩, -⟩ := id hM1
  refine lv_istore (lv' := [(6, .int k_), (5, .int (nI i)), (4, .ref oD), (3, .ref o), (2, .ref m0), (1, .ref x0), (0, .ref b)]) hx hb dL_law_317 hl (by decide) rfl (fun ls hl => ?_)
  refine lv_aload_n hx hb dL_law_319 rfl (lv_at hl 4 rfl) ?_
  refine lv_aload_n hx hb dL_law_320 rfl (lv_at hl 6 rfl) ?_
  refine lv_iload hx hb dL_law_321 (lv_at hl 1 rfl) ?_
  refine lv_iconst (v := 1) hx hb dL_law_323 (by decide) ?_
  refine lv_iadd hx hb dL_law_324 ?_
  refine lv_topi (fun v5 ev5 => ?_)
  replace ev5 : v5 = nI (i + 1) := ev5.trans (nI_add _ 1)
  subst ev5
  refine va_sld hx hb hX hbl hbA hS (vp_in_nI (by omega) (by omega)) dL_law_325 ?_
  refine lv_topi (fun a6 ea6 => ?_)
  replace ea6 : a6 = a2 := ea6.trans ea2.symm
  rw [ea6]
  refine lv_aload_n hx hb dL_law_326 rfl (lv_at hl 6 rfl) ?_
  refine lv_iload hx hb dL_law_327 (lv_at hl 1 rfl) ?_
  refine lv_iconst (v := 2) hx hb dL_law_329 (by decide) ?_
  refine lv_iadd hx hb dL_law_330 ?_
  refine lv_topi (fun v7 ev7 => ?_)
  replace ev7 : v7 = nI (i + 2) := ev7.trans (nI_add _ 2)
  subst ev7
  refine va_sld hx hb hX hbl hbA hS (vp_in_nI (by omega) (by omega)) dL_law_331 ?_
  refine lv_topi (fun a8 ea8 => ?_)
  replace ea8 : a8 = a4 := ea8.trans ea4.symm
  rw [ea8]
  refine hm_callV (rest := []) (k := 4) q5_142 q5_143 q1_9 q5_145 q5_144 rfl nm_X8_push rfl hx hb hml hown hts hK hO hS hH hl.1 hm1 (w_X8_push Γ l m0 r th K kp ck msh msm mso np mon ng gs nt ts lim rf sp rr a2 a4 f1_ hM1 hnp hng hnt hr1 hrr hkr hrI hgs ) ⟨by omega, by omega⟩ ⟨by omega, by omega⟩ rfl (Nat.le_of_ble_eq_true rfl) dL_law_332 (fun v2_ f2_ H locs hq_ hH hS => ?_)
  obtain ⟨b_, rfl⟩ := mP.val hq_
  refine W.eq (g2 := F0 m 335 ls [.int b_]) rfl ?_
  obtain ⟨k2, b2, e1_, e2_, hR⟩ := j_push h34 hn hI hM hrI ho hoD hp_ hq_
  cases e1_
  cases e2_
  obtain ⟨⟨y1, y2, y3, y4, y5, y6, y7, y8, y9, y10, y11, y12, y13, y14, y15, y16, y17, hmt⟩, ⟨g2, ho2, hg2⟩, hJ2⟩ := hR
  refine lv_istore (lv' := [(7, .int b_), (6, .int k_), (5, .int (nI i)), (4, .ref oD), (3, .ref o), (2, .ref m0), (1, .ref x0), (0, .ref b)]) hx hb dL_law_335 hl (by decide) rfl (fun ls hl => ?_)
  refine lv_aload_n hx hb dL_law_337 rfl (lv_at hl 5 rfl) ?_
  refine hm_callV (rest := []) (k := 1) q5_111 q5_112 q1_9 q5_114 q5_113 rfl nm_X8_thrown rfl hx hb hml hown hts hK hO hS hH hl.1 hmt (c_X8_thrown Γ l m0 r _ _ _ _ _ _ _ _ _ _ _ _ _ _ _ _ _ _ f2_ hmt) ⟨by omega, by omega⟩ ⟨by omega, by omega⟩ rfl (Nat.le_of_ble_eq_true rfl) dL_law_338 (fun v_ f_ H locs hp2_ hH hS => ?_)
  obtain ⟨rfl, ef_⟩ := hp2_
  rw [ef_] at hH
  clear ef_
  refine W.eq (g2 := F0 m 341 ls [.int k_]) rfl ?_
  refine lv_iload hx hb dL_law_341 (lv_at hl 1 rfl) ?_
  refine lv_icmp_eq (tgt := 348) hx hb dL_law_343 (by decide) (fun _ => ?_) (fun c9 => absurd (rfl) c9)
  refine lv_iload hx hb dL_law_348 (lv_at hl 1 rfl) ?_
  refine lv_if_ne (tgt := 365) hx hb dL_law_350 (by decide) (fun c10 => ?_) (fun c10 => ?_)
  · refine lv_goto (tgt := 1753) hx hb dL_law_365 (by decide) ?_
    refine W.widen (k := cells + 16) (n := slots + 700) (by omega) (by omega) ?_
    exact K_ f2_ H locs hJ2 hH hS ls (lv_sub hl [2, 3, 4, 5, 6, 7] rfl)
  · refine lv_aload_n hx hb dL_law_353 rfl (lv_at hl 4 rfl) ?_
    refine lv_iconst (v := 0) hx hb dL_law_354 (by decide) ?_
    refine hm_lald hx hb hK hH ho2 (by unfold vp_in; decide) dL_law_355 ?_
    refine lv_topl (fun v11 ev11 => ?_)
    replace ev11 : v11 = ((b_).toInt64) := ev11.trans (by show g2 0 = _; exact hg2 c10)
    subst ev11
    refine lv_iload hx hb dL_law_356 (lv_at hl 0 rfl) ?_
    refine lv_i2l hx hb dL_law_358 rfl ?_
    refine lv_topl (fun v12 ev12 => ?_)
    replace ev12 : v12 = ((b_).toInt64) := ev12.trans (rfl)
    subst ev12
    refine W.lcmp hx hb dL_law_359 ?_
    refine lv_if_eq (tgt := 365) hx hb dL_law_360 (by decide) (fun _ => ?_) (fun c14 => absurd (m_cmp.mpr rfl) c14)
    refine lv_goto (tgt := 1753) hx hb dL_law_365 (by decide) ?_
    refine W.widen (k := cells + 16) (n := slots + 700) (by omega) (by omega) ?_
    exact K_ f2_ H locs hJ2 hH hS ls (lv_sub hl [2, 3, 4, 5, 6, 7] rfl)
set_option maxHeartbeats 4000000 in
set_option maxRecDepth 100000 in
theorem cs_at {p : Program} {l : Launch} {e : Env} {R : Room} {s : State} {m : MethodId} {args : Array Value} {below : List Frame} {meth : Method} {c : Code} {Q : State → Prop} (Γ : Gm) (hx : p.tables.exec = Jvm.exec) (hb : c.code = cL_law) (hml : c.maxLocals = 9) (hown : s.vm.findClass "TileWardenLaw" = some m.cls) (hts : ∀ w ∈ lwG, w.before args s = true) (hK : KK Γ s) (hO : hm_O Γ s.heap) (hst : l.stackTraces = false) {b L : Nat} {xs : Nat → Int32} (hX : va_X b L xs s s.heap) (hbl : b < s.heap.size) (hbA : ¬ gA Γ b) (hRf : 400 ≤ R.frames ∧ 10000 ≤ R.locals) {x0 m0 o oD n i : Nat} {r : Nat → Nat} {f : Hm} {H : Heap} {locs : List Loc} {cells slots : Nat} (hcf : cells + 16 ≤ R.cells ∧ slots + 700 ≤ R.slots) (hJ : JS Γ f x0 m0 o oD r n) (hn : n ≤ 511) (hi : i + 4 ≤ L) (hL : L ≤ 2048) (hH : hm_H Γ f H) (hS : va_S (gA Γ) s.heap H locs) (ls : Array Slot) (hl : lv_has ls 9 [(5, .int (nI i)), (4, .ref oD), (3, .ref o), (2, .ref m0), (1, .ref x0), (0, .ref b)])
    (K_ : ∀ (f' : Hm) (H' : Heap) (locs' : List Loc), JS Γ f' x0 m0 o oD r (n + 1) → hm_H Γ f' H' → va_S (gA Γ) s.heap H' locs' → ∀ ls' : Array Slot, lv_has ls' 9 [(5, .int (nI i)), (4, .ref oD), (3, .ref o), (2, .ref m0), (1, .ref x0), (0, .ref b)] → W p l e R s m args below meth c H' locs' (cells + 16) (slots + 700) Q (F0 m 1753 ls' [])) : W p l e R s m args below meth c H locs cells slots Q (F0 m 368 ls []) := by
  obtain ⟨th, K, kp, ck, msh, msm, mso, mf, E, cn, us, so, sh, sm, np, mon, ng, gs, nt, ts, lim, rf, sp, rr, hC, hM, hI, hrI, ⟨g0, ho⟩, ⟨gD, hoD⟩⟩ := hJ
  have h34 := hm_c34 hK
  have hgs := hI.gok (by omega)
  obtain ⟨⟨hnp, hng, hnt, hr1, hrr, hkr⟩, hIg, hdf0, hIt, hIs, ⟨⟨σ, hσ⟩, hIc, hcn, hok, hmk⟩, hrf, hmon⟩ := id hI
  have hkp : kp ≤ 64 := by omega
  have hL4 : i + 3 < L := by omega
  refine lv_aload_n hx hb dL_law_368 rfl (lv_at hl 4 rfl) ?_
  refine lv_aload_n hx hb dL_law_369 rfl (lv_at hl 5 rfl) ?_
  refine lv_iload hx hb dL_law_370 (lv_at hl 0 rfl) ?_
  refine lv_iconst (v := 1) hx hb dL_law_372 (by decide) ?_
  refine lv_iadd hx hb dL_law_373 ?_
  refine lv_topi (fun v1 ev1 => ?_)
  replace ev1 : v1 = nI (i + 1) := ev1.trans (nI_add _ 1)
  subst ev1
  refine va_sld hx hb hX hbl hbA hS (vp_in_nI (by omega) (by omega)) dL_law_374 ?_
  refine lv_topi (fun a2 ea2 => ?_)
  refine lv_aload_n hx hb dL_law_375 rfl (lv_at hl 5 rfl) ?_
  refine lv_iload hx hb dL_law_376 (lv_at hl 0 rfl) ?_
  refine lv_iconst (v := 2) hx hb dL_law_378 (by decide) ?_
  refine lv_iadd hx hb dL_law_379 ?_
  refine lv_topi (fun v3 ev3 => ?_)
  replace ev3 : v3 = nI (i + 2) := ev3.trans (nI_add _ 2)
  subst ev3
  refine va_sld hx hb hX hbl hbA hS (vp_in_nI (by omega) (by omega)) dL_law_380 ?_
  refine lv_topi (fun a4 ea4 => ?_)
  refine lv_aload_n hx hb dL_law_381 rfl (lv_at hl 5 rfl) ?_
  refine lv_iload hx hb dL_law_382 (lv_at hl 0 rfl) ?_
  refine lv_iconst (v := 3) hx hb dL_law_384 (by decide) ?_
  refine lv_iadd hx hb dL_law_385 ?_
  refine lv_topi (fun v5 ev5 => ?_)
  replace ev5 : v5 = nI (i + 3) := ev5.trans (nI_add _ 3)
  subst ev5
  refine va_sld hx hb hX hbl hbA hS (vp_in_nI (by omega) (by omega)) dL_law_386 ?_
  refine lv_topi (fun a6 ea6 => ?_)
  refine lv_aload_n hx hb dL_law_387 rfl (lv_at hl 2 rfl) ?_
  refine hm_callSW (rest := []) (k := 7) q3_176 q3_177 q1_0 q3_178 nm_L_at rfl hx hb hml hown hts hK hO hS hH hl.1 (l_at Γ l x0 mf E cn us so sh sm np mon ng gs nt ts lim rf sp rr o g0 a2 a4 a6 f hst hC hnp hng hnt hr1 hrr hgs  ho) ⟨by omega, by omega⟩ ⟨by omega, by omega⟩ rfl (Nat.le_of_ble_eq_true rfl) dL_law_388 (fun v1_ f1_ H locs hp_ hH hS => ?_)
  obtain ⟨k_, rfl⟩ := wP.val hp_
  refine W.eq (g2 := F0 m 391 ls [.int k_]) rfl ?_
  have hM1 := hM.kpO ho hp_.2
  obtain ⟨⟨dz, gd, hih, mih, fh, hm1⟩, -⟩ := id hM1
  refine lv_istore (lv' := [(6, .int k_), (5, .int (nI i)), (4, .ref oD), (3, .ref o), (2, .ref m0), (1, .ref x0), (0, .ref b)]) hx hb dL_law_391 hl (by decide) rfl (fun ls hl => ?_)
  refine lv_aload_n hx hb dL_law_393 rfl (lv_at hl 4 rfl) ?_
  refine lv_aload_n hx hb dL_law_394 rfl (lv_at hl 6 rfl) ?_
  refine lv_iload hx hb dL_law_395 (lv_at hl 1 rfl) ?_
  refine lv_iconst (v := 1) hx hb dL_law_397 (by decide) ?_
  refine lv_iadd hx hb dL_law_398 ?_
  refine lv_topi (fun v7 ev7 => ?_)
  replace ev7 : v7 = nI (i + 1) := ev7.trans (nI_add _ 1)
  subst ev7
  refine va_sld hx hb hX hbl hbA hS (vp_in_nI (by omega) (by omega)) dL_law_399 ?_
  refine lv_topi (fun a8 ea8 => ?_)
  replace ea8 : a8 = a2 := ea8.trans ea2.symm
  rw [ea8]
  refine lv_aload_n hx hb dL_law_400 rfl (lv_at hl 6 rfl) ?_
  refine lv_iload hx hb dL_law_401 (lv_at hl 1 rfl) ?_
  refine lv_iconst (v := 2) hx hb dL_law_403 (by decide) ?_
  refine lv_iadd hx hb dL_law_404 ?_
  refine lv_topi (fun v9 ev9 => ?_)
  replace ev9 : v9 = nI (i + 2) := ev9.trans (nI_add _ 2)
  subst ev9
  refine va_sld hx hb hX hbl hbA hS (vp_in_nI (by omega) (by omega)) dL_law_405 ?_
  refine lv_topi (fun a10 ea10 => ?_)
  replace ea10 : a10 = a4 := ea10.trans ea4.symm
  rw [ea10]
  refine lv_aload_n hx hb dL_law_406 rfl (lv_at hl 6 rfl) ?_
  refine lv_iload hx hb dL_law_407 (lv_at hl 1 rfl) ?_
  refine lv_iconst (v := 3) hx hb dL_law_409 (by decide) ?_
  refine lv_iadd hx hb dL_law_410 ?_
  refine lv_topi (fun v11 ev11 => ?_)
  replace ev11 : v11 = nI (i + 3) := ev11.trans (nI_add _ 3)
  subst ev11
  refine va_sld hx hb hX hbl hbA hS (vp_in_nI (by omega) (by omega)) dL_law_411 ?_
  refine lv_topi (fun a12 ea12 => ?_)
  replace ea12 : a12 = a6 := ea12.trans ea6.symm
  rw [ea12]
  refine hm_callV (rest := []) (k := 4) q5_165 q5_166 q1_9 q5_168 q5_167 rfl nm_X8_at rfl hx hb hml hown hts hK hO hS hH hl.1 hm1 (w_X8_at Γ l m0 r th K kp ck msh msm mso np mon ng gs nt ts lim rf sp rr a2 a4 a6 f1_ hM1 hnp hng hnt hr1 hrr hkr hrI hgs ) ⟨by omega, by omega⟩ ⟨by omega, by omega⟩ rfl (Nat.le_of_ble_eq_true rfl) dL_law_412 (fun v2_ f2_ H locs hq_ hH hS => ?_)
  obtain ⟨b_, rfl⟩ := mP.val hq_
  refine W.eq (g2 := F0 m 415 ls [.int b_]) rfl ?_
  obtain ⟨k2, b2, e1_, e2_, hR⟩ := j_at h34 hn hI hM hrI ho hoD hp_ hq_
  cases e1_
  cases e2_
  obtain ⟨⟨y1, y2, y3, y4, y5, y6, y7, y8, y9, y10, y11, y12, y13, y14, y15, y16, y17, hmt⟩, ⟨g2, ho2, hg2⟩, hJ2⟩ := hR
  refine lv_istore (lv' := [(7, .int b_), (6, .int k_), (5, .int (nI i)), (4, .ref oD), (3, .ref o), (2, .ref m0), (1, .ref x0), (0, .ref b)]) hx hb dL_law_415 hl (by decide) rfl (fun ls hl => ?_)
  refine lv_aload_n hx hb dL_law_417 rfl (lv_at hl 5 rfl) ?_
  refine hm_callV (rest := []) (k := 1) q5_111 q5_112 q1_9 q5_114 q5_113 rfl nm_X8_thrown rfl hx hb hml hown hts hK hO hS hH hl.1 hmt (c_X8_thrown Γ l m0 r _ _ _ _ _ _ _ _ _ _ _ _ _ _ _ _ _ _ f2_ hmt) ⟨by omega, by omega⟩ ⟨by omega, by omega⟩ rfl (Nat.le_of_ble_eq_true rfl) dL_law_418 (fun v_ f_ H locs hp2_ hH hS => ?_)
  obtain ⟨rfl, ef_⟩ := hp2_
  rw [ef_] at hH
  clear ef_
  refine W.eq (g2 := F0 m 421 ls [.int k_]) rfl ?_
  refine lv_iload hx hb dL_law_421 (lv_at hl 1 rfl) ?_
  refine lv_icmp_eq (tgt := 428) hx hb dL_law_423 (by decide) (fun _ => ?_) (fun c13 => absurd (rfl) c13)
  refine lv_iload hx hb dL_law_428 (lv_at hl 1 rfl) ?_
  refine lv_if_ne (tgt := 445) hx hb dL_law_430 (by decide) (fun c14 => ?_) (fun c14 => ?_)
  · refine lv_goto (tgt := 1753) hx hb dL_law_445 (by decide) ?_
    refine W.widen (k := cells + 16) (n := slots + 700) (by omega) (by omega) ?_
    exact K_ f2_ H locs hJ2 hH hS ls (lv_sub hl [2, 3, 4, 5, 6, 7] rfl)
  · refine lv_aload_n hx hb dL_law_433 rfl (lv_at hl 4 rfl) ?_
    refine lv_iconst (v := 0) hx hb dL_law_434 (by decide) ?_
    refine hm_lald hx hb hK hH ho2 (by unfold vp_in; decide) dL_law_435 ?_
    refine lv_topl (fun v15 ev15 => ?_)
    replace ev15 : v15 = ((b_).toInt64) := ev15.trans (by show g2 0 = _; exact hg2 c14)
    subst ev15
    refine lv_iload hx hb dL_law_436 (lv_at hl 0 rfl) ?_
    refine lv_i2l hx hb dL_law_438 rfl ?_
    refine lv_topl (fun v16 ev16 => ?_)
    replace ev16 : v16 = ((b_).toInt64) := ev16.trans (rfl)
    subst ev16
    refine W.lcmp hx hb dL_law_439 ?_
    refine lv_if_eq (tgt := 445) hx hb dL_law_440 (by decide) (fun _ => ?_) (fun c18 => absurd (m_cmp.mpr rfl) c18)
    refine lv_goto (tgt := 1753) hx hb dL_law_445 (by decide) ?_
    refine W.widen (k := cells + 16) (n := slots + 700) (by omega) (by omega) ?_
    exact K_ f2_ H locs hJ2 hH hS ls (lv_sub hl [2, 3, 4, 5, 6, 7] rfl)
set_option maxHeartbeats 4000000 in
set_option maxRecDepth 100000 in
theorem cs_score {p : Program} {l : Launch} {e : Env} {R : Room} {s : State} {m : MethodId} {args : Array Value} {below : List Frame} {meth : Method} {c : Code} {Q : State → Prop} (Γ : Gm) (hx : p.tables.exec = Jvm.exec) (hb : c.code = cL_law) (hml : c.maxLocals = 9) (hown : s.vm.findClass "TileWardenLaw" = some m.cls) (hts : ∀ w ∈ lwG, w.before args s = true) (hK : KK Γ s) (hO : hm_O Γ s.heap) (hst : l.stackTraces = false) {b L : Nat} {xs : Nat → Int32} (hX : va_X b L xs s s.heap) (hbl : b < s.heap.size) (hbA : ¬ gA Γ b) (hRf : 400 ≤ R.frames ∧ 10000 ≤ R.locals) {x0 m0 o oD n i : Nat} {r : Nat → Nat} {f : Hm} {H : Heap} {locs : List Loc} {cells slots : Nat} (hcf : cells + 16 ≤ R.cells ∧ slots + 700 ≤ R.slots) (hJ : JS Γ f x0 m0 o oD r n) (hn : n ≤ 511) (hi : i + 4 ≤ L) (hL : L ≤ 2048) (hH : hm_H Γ f H) (hS : va_S (gA Γ) s.heap H locs) (ls : Array Slot) (hl : lv_has ls 9 [(5, .int (nI i)), (4, .ref oD), (3, .ref o), (2, .ref m0), (1, .ref x0), (0, .ref b)])
    (K_ : ∀ (f' : Hm) (H' : Heap) (locs' : List Loc), JS Γ f' x0 m0 o oD r (n + 1) → hm_H Γ f' H' → va_S (gA Γ) s.heap H' locs' → ∀ ls' : Array Slot, lv_has ls' 9 [(5, .int (nI i)), (4, .ref oD), (3, .ref o), (2, .ref m0), (1, .ref x0), (0, .ref b)] → W p l e R s m args below meth c H' locs' (cells + 16) (slots + 700) Q (F0 m 1753 ls' [])) : W p l e R s m args below meth c H locs cells slots Q (F0 m 448 ls []) := by
  obtain ⟨th, K, kp, ck, msh, msm, mso, mf, E, cn, us, so, sh, sm, np, mon, ng, gs, nt, ts, lim, rf, sp, rr, hC, hM, hI, hrI, ⟨g0, ho⟩, ⟨gD, hoD⟩⟩ := hJ
  have h34 := hm_c34 hK
  have hgs := hI.gok (by omega)
  obtain ⟨⟨hnp, hng, hnt, hr1, hrr, hkr⟩, hIg, hdf0, hIt, hIs, ⟨⟨σ, hσ⟩, hIc, hcn, hok, hmk⟩, hrf, hmon⟩ := id hI
  have hkp : kp ≤ 64 := by omega
  have hL4 : i + 3 < L := by omega
  refine lv_aload_n hx hb dL_law_448 rfl (lv_at hl 4 rfl) ?_
  refine lv_aload_n hx hb dL_law_449 rfl (lv_at hl 5 rfl) ?_
  refine lv_iload hx hb dL_law_450 (lv_at hl 0 rfl) ?_
  refine lv_iconst (v := 1) hx hb dL_law_452 (by decide) ?_
  refine lv_iadd hx hb dL_law_453 ?_
  refine lv_topi (fun v1 ev1 => ?_)
  replace ev1 : v1 = nI (i + 1) := ev1.trans (nI_add _ 1)
  subst ev1
  refine va_sld hx hb hX hbl hbA hS (vp_in_nI (by omega) (by omega)) dL_law_454 ?_
  refine lv_topi (fun a2 ea2 => ?_)
  refine lv_aload_n hx hb dL_law_455 rfl (lv_at hl 2 rfl) ?_
  refine hm_callSW (rest := []) (k := 7) q3_185 q3_186 q1_0 q3_187 nm_L_score rfl hx hb hml hown hts hK hO hS hH hl.1 (l_score Γ l x0 mf E cn us so sh sm np mon ng gs nt ts lim rf sp rr o g0 a2 f hst hC hnp hng hnt hr1 hrr hgs  ho) ⟨by omega, by omega⟩ ⟨by omega, by omega⟩ rfl (Nat.le_of_ble_eq_true rfl) dL_law_456 (fun v1_ f1_ H locs hp_ hH hS => ?_)
  obtain ⟨k_, rfl⟩ := wP.val hp_
  refine W.eq (g2 := F0 m 459 ls [.int k_]) rfl ?_
  have hM1 := hM.kpO ho hp_.2
  obtain ⟨⟨dz, gd, hih, mih, fh, hm1⟩, -⟩ := id hM1
  refine lv_istore (lv' := [(6, .int k_), (5, .int (nI i)), (4, .ref oD), (3, .ref o), (2, .ref m0), (1, .ref x0), (0, .ref b)]) hx hb dL_law_459 hl (by decide) rfl (fun ls hl => ?_)
  refine lv_aload_n hx hb dL_law_461 rfl (lv_at hl 4 rfl) ?_
  refine lv_aload_n hx hb dL_law_462 rfl (lv_at hl 6 rfl) ?_
  refine lv_iload hx hb dL_law_463 (lv_at hl 1 rfl) ?_
  refine lv_iconst (v := 1) hx hb dL_law_465 (by decide) ?_
  refine lv_iadd hx hb dL_law_466 ?_
  refine lv_topi (fun v3 ev3 => ?_)
  replace ev3 : v3 = nI (i + 1) := ev3.trans (nI_add _ 1)
  subst ev3
  refine va_sld hx hb hX hbl hbA hS (vp_in_nI (by omega) (by omega)) dL_law_467 ?_
  refine lv_topi (fun a4 ea4 => ?_)
  replace ea4 : a4 = a2 := ea4.trans ea2.symm
  rw [ea4]
  refine hm_callV (rest := []) (k := 3) q5_169 q5_170 q1_9 q5_172 q5_171 rfl nm_X8_score rfl hx hb hml hown hts hK hO hS hH hl.1 hm1 (w_X8_score Γ l m0 r th K kp ck msh msm mso np mon ng gs nt ts lim rf sp rr a2 f1_ hM1 hnp hng hnt hr1 hrr hkr hrI hgs ) ⟨by omega, by omega⟩ ⟨by omega, by omega⟩ rfl (Nat.le_of_ble_eq_true rfl) dL_law_468 (fun v2_ f2_ H locs hq_ hH hS => ?_)
  obtain ⟨b_, rfl⟩ := mP.val hq_
  refine W.eq (g2 := F0 m 471 ls [.int b_]) rfl ?_
  obtain ⟨k2, b2, e1_, e2_, hR⟩ := j_score h34 hn hI hM hrI ho hoD hp_ hq_
  cases e1_
  cases e2_
  obtain ⟨⟨y1, y2, y3, y4, y5, y6, y7, y8, y9, y10, y11, y12, y13, y14, y15, y16, y17, hmt⟩, ⟨g2, ho2, hg2⟩, hJ2⟩ := hR
  refine lv_istore (lv' := [(7, .int b_), (6, .int k_), (5, .int (nI i)), (4, .ref oD), (3, .ref o), (2, .ref m0), (1, .ref x0), (0, .ref b)]) hx hb dL_law_471 hl (by decide) rfl (fun ls hl => ?_)
  refine lv_aload_n hx hb dL_law_473 rfl (lv_at hl 5 rfl) ?_
  refine hm_callV (rest := []) (k := 1) q5_111 q5_112 q1_9 q5_114 q5_113 rfl nm_X8_thrown rfl hx hb hml hown hts hK hO hS hH hl.1 hmt (c_X8_thrown Γ l m0 r _ _ _ _ _ _ _ _ _ _ _ _ _ _ _ _ _ _ f2_ hmt) ⟨by omega, by omega⟩ ⟨by omega, by omega⟩ rfl (Nat.le_of_ble_eq_true rfl) dL_law_474 (fun v_ f_ H locs hp2_ hH hS => ?_)
  obtain ⟨rfl, ef_⟩ := hp2_
  rw [ef_] at hH
  clear ef_
  refine W.eq (g2 := F0 m 477 ls [.int k_]) rfl ?_
  refine lv_iload hx hb dL_law_477 (lv_at hl 1 rfl) ?_
  refine lv_icmp_eq (tgt := 484) hx hb dL_law_479 (by decide) (fun _ => ?_) (fun c5 => absurd (rfl) c5)
  refine lv_iload hx hb dL_law_484 (lv_at hl 1 rfl) ?_
  refine lv_if_ne (tgt := 501) hx hb dL_law_486 (by decide) (fun c6 => ?_) (fun c6 => ?_)
  · refine lv_goto (tgt := 1753) hx hb dL_law_501 (by decide) ?_
    refine W.widen (k := cells + 16) (n := slots + 700) (by omega) (by omega) ?_
    exact K_ f2_ H locs hJ2 hH hS ls (lv_sub hl [2, 3, 4, 5, 6, 7] rfl)
  · refine lv_aload_n hx hb dL_law_489 rfl (lv_at hl 4 rfl) ?_
    refine lv_iconst (v := 0) hx hb dL_law_490 (by decide) ?_
    refine hm_lald hx hb hK hH ho2 (by unfold vp_in; decide) dL_law_491 ?_
    refine lv_topl (fun v7 ev7 => ?_)
    replace ev7 : v7 = ((b_).toInt64) := ev7.trans (by show g2 0 = _; exact hg2 c6)
    subst ev7
    refine lv_iload hx hb dL_law_492 (lv_at hl 0 rfl) ?_
    refine lv_i2l hx hb dL_law_494 rfl ?_
    refine lv_topl (fun v8 ev8 => ?_)
    replace ev8 : v8 = ((b_).toInt64) := ev8.trans (rfl)
    subst ev8
    refine W.lcmp hx hb dL_law_495 ?_
    refine lv_if_eq (tgt := 501) hx hb dL_law_496 (by decide) (fun _ => ?_) (fun c10 => absurd (m_cmp.mpr rfl) c10)
    refine lv_goto (tgt := 1753) hx hb dL_law_501 (by decide) ?_
    refine W.widen (k := cells + 16) (n := slots + 700) (by omega) (by omega) ?_
    exact K_ f2_ H locs hJ2 hH hS ls (lv_sub hl [2, 3, 4, 5, 6, 7] rfl)
set_option maxHeartbeats 4000000 in
set_option maxRecDepth 100000 in
theorem cs_pushes {p : Program} {l : Launch} {e : Env} {R : Room} {s : State} {m : MethodId} {args : Array Value} {below : List Frame} {meth : Method} {c : Code} {Q : State → Prop} (Γ : Gm) (hx : p.tables.exec = Jvm.exec) (hb : c.code = cL_law) (hml : c.maxLocals = 9) (hown : s.vm.findClass "TileWardenLaw" = some m.cls) (hts : ∀ w ∈ lwG, w.before args s = true) (hK : KK Γ s) (hO : hm_O Γ s.heap) (hst : l.stackTraces = false) {b L : Nat} {xs : Nat → Int32} (hX : va_X b L xs s s.heap) (hbl : b < s.heap.size) (hbA : ¬ gA Γ b) (hRf : 400 ≤ R.frames ∧ 10000 ≤ R.locals) {x0 m0 o oD n i : Nat} {r : Nat → Nat} {f : Hm} {H : Heap} {locs : List Loc} {cells slots : Nat} (hcf : cells + 16 ≤ R.cells ∧ slots + 700 ≤ R.slots) (hJ : JS Γ f x0 m0 o oD r n) (hn : n ≤ 511) (hi : i + 4 ≤ L) (hL : L ≤ 2048) (hH : hm_H Γ f H) (hS : va_S (gA Γ) s.heap H locs) (ls : Array Slot) (hl : lv_has ls 9 [(5, .int (nI i)), (4, .ref oD), (3, .ref o), (2, .ref m0), (1, .ref x0), (0, .ref b)])
    (K_ : ∀ (f' : Hm) (H' : Heap) (locs' : List Loc), JS Γ f' x0 m0 o oD r (n + 1) → hm_H Γ f' H' → va_S (gA Γ) s.heap H' locs' → ∀ ls' : Array Slot, lv_has ls' 9 [(5, .int (nI i)), (4, .ref oD), (3, .ref o), (2, .ref m0), (1, .ref x0), (0, .ref b)] → W p l e R s m args below meth c H' locs' (cells + 16) (slots + 700) Q (F0 m 1753 ls' [])) : W p l e R s m args below meth c H locs cells slots Q (F0 m 504 ls []) := by
  obtain ⟨th, K, kp, ck, msh, msm, mso, mf, E, cn, us, so, sh, sm, np, mon, ng, gs, nt, ts, lim, rf, sp, rr, hC, hM, hI, hrI, ⟨g0, ho⟩, ⟨gD, hoD⟩⟩ := hJ
  have h34 := hm_c34 hK
  have hgs := hI.gok (by omega)
  obtain ⟨⟨hnp, hng, hnt, hr1, hrr, hkr⟩, hIg, hdf0, hIt, hIs, ⟨⟨σ, hσ⟩, hIc, hcn, hok, hmk⟩, hrf, hmon⟩ := id hI
  have hkp : kp ≤ 64 := by omega
  have hL4 : i + 3 < L := by omega
  refine lv_aload_n hx hb dL_law_504 rfl (lv_at hl 4 rfl) ?_
  refine lv_aload_n hx hb dL_law_505 rfl (lv_at hl 5 rfl) ?_
  refine lv_iload hx hb dL_law_506 (lv_at hl 0 rfl) ?_
  refine lv_iconst (v := 1) hx hb dL_law_508 (by decide) ?_
  refine lv_iadd hx hb dL_law_509 ?_
  refine lv_topi (fun v1 ev1 => ?_)
  replace ev1 : v1 = nI (i + 1) := ev1.trans (nI_add _ 1)
  subst ev1
  refine va_sld hx hb hX hbl hbA hS (vp_in_nI (by omega) (by omega)) dL_law_510 ?_
  refine lv_topi (fun a2 ea2 => ?_)
  refine lv_aload_n hx hb dL_law_511 rfl (lv_at hl 2 rfl) ?_
  refine hm_callSW (rest := []) (k := 7) q3_192 q3_193 q1_0 q3_194 nm_L_pushes rfl hx hb hml hown hts hK hO hS hH hl.1 (l_pushes Γ l x0 mf E cn us so sh sm np mon ng gs nt ts lim rf sp rr o g0 a2 f hst hC hnp hng hnt hr1 hrr hgs  ho) ⟨by omega, by omega⟩ ⟨by omega, by omega⟩ rfl (Nat.le_of_ble_eq_true rfl) dL_law_512 (fun v1_ f1_ H locs hp_ hH hS => ?_)
  obtain ⟨k_, rfl⟩ := wP.val hp_
  refine W.eq (g2 := F0 m 515 ls [.int k_]) rfl ?_
  have hM1 := hM.kpO ho hp_.2
  obtain ⟨⟨dz, gd, hih, mih, fh, hm1⟩, -⟩ := id hM1
  refine lv_istore (lv' := [(6, .int k_), (5, .int (nI i)), (4, .ref oD), (3, .ref o), (2, .ref m0), (1, .ref x0), (0, .ref b)]) hx hb dL_law_515 hl (by decide) rfl (fun ls hl => ?_)
  refine lv_aload_n hx hb dL_law_517 rfl (lv_at hl 4 rfl) ?_
  refine lv_aload_n hx hb dL_law_518 rfl (lv_at hl 6 rfl) ?_
  refine lv_iload hx hb dL_law_519 (lv_at hl 1 rfl) ?_
  refine lv_iconst (v := 1) hx hb dL_law_521 (by decide) ?_
  refine lv_iadd hx hb dL_law_522 ?_
  refine lv_topi (fun v3 ev3 => ?_)
  replace ev3 : v3 = nI (i + 1) := ev3.trans (nI_add _ 1)
  subst ev3
  refine va_sld hx hb hX hbl hbA hS (vp_in_nI (by omega) (by omega)) dL_law_523 ?_
  refine lv_topi (fun a4 ea4 => ?_)
  replace ea4 : a4 = a2 := ea4.trans ea2.symm
  rw [ea4]
  refine hm_callV (rest := []) (k := 3) q5_173 q5_174 q1_9 q5_176 q5_175 rfl nm_X8_pushes rfl hx hb hml hown hts hK hO hS hH hl.1 hm1 (w_X8_pushes Γ l m0 r th K kp ck msh msm mso np mon ng gs nt ts lim rf sp rr a2 f1_ hM1 hnp hng hnt hr1 hrr hkr hrI hgs ) ⟨by omega, by omega⟩ ⟨by omega, by omega⟩ rfl (Nat.le_of_ble_eq_true rfl) dL_law_524 (fun v2_ f2_ H locs hq_ hH hS => ?_)
  obtain ⟨b_, rfl⟩ := mP.val hq_
  refine W.eq (g2 := F0 m 527 ls [.int b_]) rfl ?_
  obtain ⟨k2, b2, e1_, e2_, hR⟩ := j_pushes h34 hn hI hM hrI ho hoD hp_ hq_
  cases e1_
  cases e2_
  obtain ⟨⟨y1, y2, y3, y4, y5, y6, y7, y8, y9, y10, y11, y12, y13, y14, y15, y16, y17, hmt⟩, ⟨g2, ho2, hg2⟩, hJ2⟩ := hR
  refine lv_istore (lv' := [(7, .int b_), (6, .int k_), (5, .int (nI i)), (4, .ref oD), (3, .ref o), (2, .ref m0), (1, .ref x0), (0, .ref b)]) hx hb dL_law_527 hl (by decide) rfl (fun ls hl => ?_)
  refine lv_aload_n hx hb dL_law_529 rfl (lv_at hl 5 rfl) ?_
  refine hm_callV (rest := []) (k := 1) q5_111 q5_112 q1_9 q5_114 q5_113 rfl nm_X8_thrown rfl hx hb hml hown hts hK hO hS hH hl.1 hmt (c_X8_thrown Γ l m0 r _ _ _ _ _ _ _ _ _ _ _ _ _ _ _ _ _ _ f2_ hmt) ⟨by omega, by omega⟩ ⟨by omega, by omega⟩ rfl (Nat.le_of_ble_eq_true rfl) dL_law_530 (fun v_ f_ H locs hp2_ hH hS => ?_)
  obtain ⟨rfl, ef_⟩ := hp2_
  rw [ef_] at hH
  clear ef_
  refine W.eq (g2 := F0 m 533 ls [.int k_]) rfl ?_
  refine lv_iload hx hb dL_law_533 (lv_at hl 1 rfl) ?_
  refine lv_icmp_eq (tgt := 540) hx hb dL_law_535 (by decide) (fun _ => ?_) (fun c5 => absurd (rfl) c5)
  refine lv_iload hx hb dL_law_540 (lv_at hl 1 rfl) ?_
  refine lv_if_ne (tgt := 557) hx hb dL_law_542 (by decide) (fun c6 => ?_) (fun c6 => ?_)
  · refine lv_goto (tgt := 1753) hx hb dL_law_557 (by decide) ?_
    refine W.widen (k := cells + 16) (n := slots + 700) (by omega) (by omega) ?_
    exact K_ f2_ H locs hJ2 hH hS ls (lv_sub hl [2, 3, 4, 5, 6, 7] rfl)
  · refine lv_aload_n hx hb dL_law_545 rfl (lv_at hl 4 rfl) ?_
    refine lv_iconst (v := 0) hx hb dL_law_546 (by decide) ?_
    refine hm_lald hx hb hK hH ho2 (by unfold vp_in; decide) dL_law_547 ?_
    refine lv_topl (fun v7 ev7 => ?_)
    replace ev7 : v7 = ((b_).toInt64) := ev7.trans (by show g2 0 = _; exact hg2 c6)
    subst ev7
    refine lv_iload hx hb dL_law_548 (lv_at hl 0 rfl) ?_
    refine lv_i2l hx hb dL_law_550 rfl ?_
    refine lv_topl (fun v8 ev8 => ?_)
    replace ev8 : v8 = ((b_).toInt64) := ev8.trans (rfl)
    subst ev8
    refine W.lcmp hx hb dL_law_551 ?_
    refine lv_if_eq (tgt := 557) hx hb dL_law_552 (by decide) (fun _ => ?_) (fun c10 => absurd (m_cmp.mpr rfl) c10)
    refine lv_goto (tgt := 1753) hx hb dL_law_557 (by decide) ?_
    refine W.widen (k := cells + 16) (n := slots + 700) (by omega) (by omega) ?_
    exact K_ f2_ H locs hJ2 hH hS ls (lv_sub hl [2, 3, 4, 5, 6, 7] rfl)
set_option maxHeartbeats 4000000 in
set_option maxRecDepth 100000 in
theorem cs_canPush {p : Program} {l : Launch} {e : Env} {R : Room} {s : State} {m : MethodId} {args : Array Value} {below : List Frame} {meth : Method} {c : Code} {Q : State → Prop} (Γ : Gm) (hx : p.tables.exec = Jvm.exec) (hb : c.code = cL_law) (hml : c.maxLocals = 9) (hown : s.vm.findClass "TileWardenLaw" = some m.cls) (hts : ∀ w ∈ lwG, w.before args s = true) (hK : KK Γ s) (hO : hm_O Γ s.heap) (hst : l.stackTraces = false) {b L : Nat} {xs : Nat → Int32} (hX : va_X b L xs s s.heap) (hbl : b < s.heap.size) (hbA : ¬ gA Γ b) (hRf : 400 ≤ R.frames ∧ 10000 ≤ R.locals) {x0 m0 o oD n i : Nat} {r : Nat → Nat} {f : Hm} {H : Heap} {locs : List Loc} {cells slots : Nat} (hcf : cells + 16 ≤ R.cells ∧ slots + 700 ≤ R.slots) (hJ : JS Γ f x0 m0 o oD r n) (hn : n ≤ 511) (hi : i + 4 ≤ L) (hL : L ≤ 2048) (hH : hm_H Γ f H) (hS : va_S (gA Γ) s.heap H locs) (ls : Array Slot) (hl : lv_has ls 9 [(5, .int (nI i)), (4, .ref oD), (3, .ref o), (2, .ref m0), (1, .ref x0), (0, .ref b)])
    (K_ : ∀ (f' : Hm) (H' : Heap) (locs' : List Loc), JS Γ f' x0 m0 o oD r (n + 1) → hm_H Γ f' H' → va_S (gA Γ) s.heap H' locs' → ∀ ls' : Array Slot, lv_has ls' 9 [(5, .int (nI i)), (4, .ref oD), (3, .ref o), (2, .ref m0), (1, .ref x0), (0, .ref b)] → W p l e R s m args below meth c H' locs' (cells + 16) (slots + 700) Q (F0 m 1753 ls' [])) : W p l e R s m args below meth c H locs cells slots Q (F0 m 560 ls []) := by
  obtain ⟨th, K, kp, ck, msh, msm, mso, mf, E, cn, us, so, sh, sm, np, mon, ng, gs, nt, ts, lim, rf, sp, rr, hC, hM, hI, hrI, ⟨g0, ho⟩, ⟨gD, hoD⟩⟩ := hJ
  have h34 := hm_c34 hK
  have hgs := hI.gok (by omega)
  obtain ⟨⟨hnp, hng, hnt, hr1, hrr, hkr⟩, hIg, hdf0, hIt, hIs, ⟨⟨σ, hσ⟩, hIc, hcn, hok, hmk⟩, hrf, hmon⟩ := id hI
  have hkp : kp ≤ 64 := by omega
  have hL4 : i + 3 < L := by omega
  refine lv_aload_n hx hb dL_law_560 rfl (lv_at hl 4 rfl) ?_
  refine lv_aload_n hx hb dL_law_561 rfl (lv_at hl 5 rfl) ?_
  refine lv_iload hx hb dL_law_562 (lv_at hl 0 rfl) ?_
  refine lv_iconst (v := 1) hx hb dL_law_564 (by decide) ?_
  refine lv_iadd hx hb dL_law_565 ?_
  refine lv_topi (fun v1 ev1 => ?_)
  replace ev1 : v1 = nI (i + 1) := ev1.trans (nI_add _ 1)
  subst ev1
  refine va_sld hx hb hX hbl hbA hS (vp_in_nI (by omega) (by omega)) dL_law_566 ?_
  refine lv_topi (fun a2 ea2 => ?_)
  refine lv_aload_n hx hb dL_law_567 rfl (lv_at hl 5 rfl) ?_
  refine lv_iload hx hb dL_law_568 (lv_at hl 0 rfl) ?_
  refine lv_iconst (v := 2) hx hb dL_law_570 (by decide) ?_
  refine lv_iadd hx hb dL_law_571 ?_
  refine lv_topi (fun v3 ev3 => ?_)
  replace ev3 : v3 = nI (i + 2) := ev3.trans (nI_add _ 2)
  subst ev3
  refine va_sld hx hb hX hbl hbA hS (vp_in_nI (by omega) (by omega)) dL_law_572 ?_
  refine lv_topi (fun a4 ea4 => ?_)
  refine lv_aload_n hx hb dL_law_573 rfl (lv_at hl 2 rfl) ?_
  refine hm_callSW (rest := []) (k := 9) q3_199 q3_200 q1_0 q3_201 nm_L_canPush rfl hx hb hml hown hts hK hO hS hH hl.1 (l_canPush Γ l x0 mf E cn us so sh sm np mon ng gs nt ts lim rf sp rr o g0 a2 a4 f hst hC hnp hng hnt hr1 hrr hgs  ho) ⟨by omega, by omega⟩ ⟨by omega, by omega⟩ rfl (Nat.le_of_ble_eq_true rfl) dL_law_574 (fun v1_ f1_ H locs hp_ hH hS => ?_)
  obtain ⟨k_, rfl⟩ := wP.val hp_
  refine W.eq (g2 := F0 m 577 ls [.int k_]) rfl ?_
  have hM1 := hM.kpO ho hp_.2
  obtain ⟨⟨dz, gd, hih, mih, fh, hm1⟩, -⟩ := id hM1
  refine lv_istore (lv' := [(6, .int k_), (5, .int (nI i)), (4, .ref oD), (3, .ref o), (2, .ref m0), (1, .ref x0), (0, .ref b)]) hx hb dL_law_577 hl (by decide) rfl (fun ls hl => ?_)
  refine lv_aload_n hx hb dL_law_579 rfl (lv_at hl 4 rfl) ?_
  refine lv_aload_n hx hb dL_law_580 rfl (lv_at hl 6 rfl) ?_
  refine lv_iload hx hb dL_law_581 (lv_at hl 1 rfl) ?_
  refine lv_iconst (v := 1) hx hb dL_law_583 (by decide) ?_
  refine lv_iadd hx hb dL_law_584 ?_
  refine lv_topi (fun v5 ev5 => ?_)
  replace ev5 : v5 = nI (i + 1) := ev5.trans (nI_add _ 1)
  subst ev5
  refine va_sld hx hb hX hbl hbA hS (vp_in_nI (by omega) (by omega)) dL_law_585 ?_
  refine lv_topi (fun a6 ea6 => ?_)
  replace ea6 : a6 = a2 := ea6.trans ea2.symm
  rw [ea6]
  refine lv_aload_n hx hb dL_law_586 rfl (lv_at hl 6 rfl) ?_
  refine lv_iload hx hb dL_law_587 (lv_at hl 1 rfl) ?_
  refine lv_iconst (v := 2) hx hb dL_law_589 (by decide) ?_
  refine lv_iadd hx hb dL_law_590 ?_
  refine lv_topi (fun v7 ev7 => ?_)
  replace ev7 : v7 = nI (i + 2) := ev7.trans (nI_add _ 2)
  subst ev7
  refine va_sld hx hb hX hbl hbA hS (vp_in_nI (by omega) (by omega)) dL_law_591 ?_
  refine lv_topi (fun a8 ea8 => ?_)
  replace ea8 : a8 = a4 := ea8.trans ea4.symm
  rw [ea8]
  refine hm_callV (rest := []) (k := 4) q5_177 q5_178 q1_9 q5_180 q5_179 rfl nm_X8_canPush rfl hx hb hml hown hts hK hO hS hH hl.1 hm1 (w_X8_canPush Γ l m0 r th K kp ck msh msm mso np mon ng gs nt ts lim rf sp rr a2 a4 f1_ hM1 hnp hng hnt hr1 hrr hkr hrI hgs ) ⟨by omega, by omega⟩ ⟨by omega, by omega⟩ rfl (Nat.le_of_ble_eq_true rfl) dL_law_592 (fun v2_ f2_ H locs hq_ hH hS => ?_)
  obtain ⟨b_, rfl⟩ := mP.val hq_
  refine W.eq (g2 := F0 m 595 ls [.int b_]) rfl ?_
  have hBz : k_ = 0 → b_ = _ := fun z => mP.bool hq_ (wP.zero hp_ z)
  obtain ⟨k2, b2, e1_, e2_, hR⟩ := j_canPush h34 hn hI hM hrI ho hoD hp_ hq_
  cases e1_
  cases e2_
  obtain ⟨⟨y1, y2, y3, y4, y5, y6, y7, y8, y9, y10, y11, y12, y13, y14, y15, y16, y17, hmt⟩, ⟨g2, ho2, hg2⟩, hJ2⟩ := hR
  refine lv_istore (lv' := [(7, .int b_), (6, .int k_), (5, .int (nI i)), (4, .ref oD), (3, .ref o), (2, .ref m0), (1, .ref x0), (0, .ref b)]) hx hb dL_law_595 hl (by decide) rfl (fun ls hl => ?_)
  refine lv_aload_n hx hb dL_law_597 rfl (lv_at hl 5 rfl) ?_
  refine hm_callV (rest := []) (k := 1) q5_111 q5_112 q1_9 q5_114 q5_113 rfl nm_X8_thrown rfl hx hb hml hown hts hK hO hS hH hl.1 hmt (c_X8_thrown Γ l m0 r _ _ _ _ _ _ _ _ _ _ _ _ _ _ _ _ _ _ f2_ hmt) ⟨by omega, by omega⟩ ⟨by omega, by omega⟩ rfl (Nat.le_of_ble_eq_true rfl) dL_law_598 (fun v_ f_ H locs hp2_ hH hS => ?_)
  obtain ⟨rfl, ef_⟩ := hp2_
  rw [ef_] at hH
  clear ef_
  refine W.eq (g2 := F0 m 601 ls [.int k_]) rfl ?_
  refine lv_iload hx hb dL_law_601 (lv_at hl 1 rfl) ?_
  refine lv_icmp_eq (tgt := 608) hx hb dL_law_603 (by decide) (fun _ => ?_) (fun c9 => absurd (rfl) c9)
  refine lv_iload hx hb dL_law_608 (lv_at hl 1 rfl) ?_
  refine lv_if_ne (tgt := 632) hx hb dL_law_610 (by decide) (fun c10 => ?_) (fun c10 => ?_)
  · refine lv_goto (tgt := 1753) hx hb dL_law_632 (by decide) ?_
    refine W.widen (k := cells + 16) (n := slots + 700) (by omega) (by omega) ?_
    exact K_ f2_ H locs hJ2 hH hS ls (lv_sub hl [2, 3, 4, 5, 6, 7] rfl)
  · have hB0 := hBz c10
    revert hB0
    generalize hBB : bI _ = bb_
    intro hB0
    subst hB0
    obtain ⟨BB, eBB⟩ : ∃ BB, b_ = bI BB := ⟨_, hBB.symm⟩
    subst eBB
    refine lv_aload_n hx hb dL_law_613 rfl (lv_at hl 4 rfl) ?_
    refine lv_iconst (v := 0) hx hb dL_law_614 (by decide) ?_
    refine hm_lald hx hb hK hH ho2 (by unfold vp_in; decide) dL_law_615 ?_
    refine lv_topl (fun v11 ev11 => ?_)
    replace ev11 : v11 = ((bI BB).toInt64) := ev11.trans (by show g2 0 = _; exact hg2 c10)
    subst ev11
    refine lv_iload hx hb dL_law_616 (lv_at hl 0 rfl) ?_
    refine lv_if_eq (tgt := 625) hx hb dL_law_618 (by decide) (fun c12 => ?_) (fun c12 => ?_)
    · refine lv_lconst (v := 0) hx hb dL_law_625 (by decide) ?_
      refine W.lcmp hx hb dL_law_626 ?_
      refine lv_if_eq (tgt := 632) hx hb dL_law_627 (by decide) (fun _ => ?_) (fun c14 => absurd (m_cmp.mpr (by rw [bI_0.mp c12]; rfl)) c14)
      refine lv_goto (tgt := 1753) hx hb dL_law_632 (by decide) ?_
      refine W.widen (k := cells + 16) (n := slots + 700) (by omega) (by omega) ?_
      exact K_ f2_ H locs hJ2 hH hS ls (lv_sub hl [2, 3, 4, 5, 6, 7] rfl)
    · refine lv_lconst (v := 1) hx hb dL_law_621 (by decide) ?_
      refine lv_goto (tgt := 626) hx hb dL_law_622 (by decide) ?_
      refine W.lcmp hx hb dL_law_626 ?_
      refine lv_if_eq (tgt := 632) hx hb dL_law_627 (by decide) (fun _ => ?_) (fun c16 => absurd (m_cmp.mpr (by rw [bI_n.mp c12]; rfl)) c16)
      refine lv_goto (tgt := 1753) hx hb dL_law_632 (by decide) ?_
      refine W.widen (k := cells + 16) (n := slots + 700) (by omega) (by omega) ?_
      exact K_ f2_ H locs hJ2 hH hS ls (lv_sub hl [2, 3, 4, 5, 6, 7] rfl)
set_option maxHeartbeats 4000000 in
set_option maxRecDepth 100000 in
theorem cs_isOver {p : Program} {l : Launch} {e : Env} {R : Room} {s : State} {m : MethodId} {args : Array Value} {below : List Frame} {meth : Method} {c : Code} {Q : State → Prop} (Γ : Gm) (hx : p.tables.exec = Jvm.exec) (hb : c.code = cL_law) (hml : c.maxLocals = 9) (hown : s.vm.findClass "TileWardenLaw" = some m.cls) (hts : ∀ w ∈ lwG, w.before args s = true) (hK : KK Γ s) (hO : hm_O Γ s.heap) (hst : l.stackTraces = false) {b L : Nat} {xs : Nat → Int32} (hX : va_X b L xs s s.heap) (hbl : b < s.heap.size) (hbA : ¬ gA Γ b) (hRf : 400 ≤ R.frames ∧ 10000 ≤ R.locals) {x0 m0 o oD n i : Nat} {r : Nat → Nat} {f : Hm} {H : Heap} {locs : List Loc} {cells slots : Nat} (hcf : cells + 16 ≤ R.cells ∧ slots + 700 ≤ R.slots) (hJ : JS Γ f x0 m0 o oD r n) (hn : n ≤ 511) (hi : i + 4 ≤ L) (hL : L ≤ 2048) (hH : hm_H Γ f H) (hS : va_S (gA Γ) s.heap H locs) (ls : Array Slot) (hl : lv_has ls 9 [(5, .int (nI i)), (4, .ref oD), (3, .ref o), (2, .ref m0), (1, .ref x0), (0, .ref b)])
    (K_ : ∀ (f' : Hm) (H' : Heap) (locs' : List Loc), JS Γ f' x0 m0 o oD r (n + 1) → hm_H Γ f' H' → va_S (gA Γ) s.heap H' locs' → ∀ ls' : Array Slot, lv_has ls' 9 [(5, .int (nI i)), (4, .ref oD), (3, .ref o), (2, .ref m0), (1, .ref x0), (0, .ref b)] → W p l e R s m args below meth c H' locs' (cells + 16) (slots + 700) Q (F0 m 1753 ls' [])) : W p l e R s m args below meth c H locs cells slots Q (F0 m 635 ls []) := by
  obtain ⟨th, K, kp, ck, msh, msm, mso, mf, E, cn, us, so, sh, sm, np, mon, ng, gs, nt, ts, lim, rf, sp, rr, hC, hM, hI, hrI, ⟨g0, ho⟩, ⟨gD, hoD⟩⟩ := hJ
  have h34 := hm_c34 hK
  have hgs := hI.gok (by omega)
  obtain ⟨⟨hnp, hng, hnt, hr1, hrr, hkr⟩, hIg, hdf0, hIt, hIs, ⟨⟨σ, hσ⟩, hIc, hcn, hok, hmk⟩, hrf, hmon⟩ := id hI
  have hkp : kp ≤ 64 := by omega
  have hL4 : i + 3 < L := by omega
  refine lv_aload_n hx hb dL_law_635 rfl (lv_at hl 4 rfl) ?_
  refine lv_aload_n hx hb dL_law_636 rfl (lv_at hl 5 rfl) ?_
  refine lv_iload hx hb dL_law_637 (lv_at hl 0 rfl) ?_
  refine lv_iconst (v := 1) hx hb dL_law_639 (by decide) ?_
  refine lv_iadd hx hb dL_law_640 ?_
  refine lv_topi (fun v1 ev1 => ?_)
  replace ev1 : v1 = nI (i + 1) := ev1.trans (nI_add _ 1)
  subst ev1
  refine va_sld hx hb hX hbl hbA hS (vp_in_nI (by omega) (by omega)) dL_law_641 ?_
  refine lv_topi (fun a2 ea2 => ?_)
  refine lv_aload_n hx hb dL_law_642 rfl (lv_at hl 2 rfl) ?_
  refine hm_callSW (rest := []) (k := 9) q3_206 q3_207 q1_0 q3_208 nm_L_isOver rfl hx hb hml hown hts hK hO hS hH hl.1 (l_isOver Γ l x0 mf E cn us so sh sm np mon ng gs nt ts lim rf sp rr o g0 a2 f hst hC hnp hng hnt hr1 hrr hgs  ho) ⟨by omega, by omega⟩ ⟨by omega, by omega⟩ rfl (Nat.le_of_ble_eq_true rfl) dL_law_643 (fun v1_ f1_ H locs hp_ hH hS => ?_)
  obtain ⟨k_, rfl⟩ := wP.val hp_
  refine W.eq (g2 := F0 m 646 ls [.int k_]) rfl ?_
  have hM1 := hM.kpO ho hp_.2
  obtain ⟨⟨dz, gd, hih, mih, fh, hm1⟩, -⟩ := id hM1
  refine lv_istore (lv' := [(6, .int k_), (5, .int (nI i)), (4, .ref oD), (3, .ref o), (2, .ref m0), (1, .ref x0), (0, .ref b)]) hx hb dL_law_646 hl (by decide) rfl (fun ls hl => ?_)
  refine lv_aload_n hx hb dL_law_648 rfl (lv_at hl 4 rfl) ?_
  refine lv_aload_n hx hb dL_law_649 rfl (lv_at hl 6 rfl) ?_
  refine lv_iload hx hb dL_law_650 (lv_at hl 1 rfl) ?_
  refine lv_iconst (v := 1) hx hb dL_law_652 (by decide) ?_
  refine lv_iadd hx hb dL_law_653 ?_
  refine lv_topi (fun v3 ev3 => ?_)
  replace ev3 : v3 = nI (i + 1) := ev3.trans (nI_add _ 1)
  subst ev3
  refine va_sld hx hb hX hbl hbA hS (vp_in_nI (by omega) (by omega)) dL_law_654 ?_
  refine lv_topi (fun a4 ea4 => ?_)
  replace ea4 : a4 = a2 := ea4.trans ea2.symm
  rw [ea4]
  refine hm_callV (rest := []) (k := 5) q5_181 q5_182 q1_9 q5_184 q5_183 rfl nm_X8_isOver rfl hx hb hml hown hts hK hO hS hH hl.1 hm1 (w_X8_isOver Γ l m0 r th K kp ck msh msm mso np mon ng gs nt ts lim rf sp rr a2 f1_ hM1 hnp hng hnt hr1 hrr hkr hrI hgs ) ⟨by omega, by omega⟩ ⟨by omega, by omega⟩ rfl (Nat.le_of_ble_eq_true rfl) dL_law_655 (fun v2_ f2_ H locs hq_ hH hS => ?_)
  obtain ⟨b_, rfl⟩ := mP.val hq_
  refine W.eq (g2 := F0 m 658 ls [.int b_]) rfl ?_
  have hBz : k_ = 0 → b_ = _ := fun z => mP.bool hq_ (wP.zero hp_ z)
  obtain ⟨k2, b2, e1_, e2_, hR⟩ := j_isOver h34 hn hI hM hrI ho hoD hp_ hq_
  cases e1_
  cases e2_
  obtain ⟨⟨y1, y2, y3, y4, y5, y6, y7, y8, y9, y10, y11, y12, y13, y14, y15, y16, y17, hmt⟩, ⟨g2, ho2, hg2⟩, hJ2⟩ := hR
  refine lv_istore (lv' := [(7, .int b_), (6, .int k_), (5, .int (nI i)), (4, .ref oD), (3, .ref o), (2, .ref m0), (1, .ref x0), (0, .ref b)]) hx hb dL_law_658 hl (by decide) rfl (fun ls hl => ?_)
  refine lv_aload_n hx hb dL_law_660 rfl (lv_at hl 5 rfl) ?_
  refine hm_callV (rest := []) (k := 1) q5_111 q5_112 q1_9 q5_114 q5_113 rfl nm_X8_thrown rfl hx hb hml hown hts hK hO hS hH hl.1 hmt (c_X8_thrown Γ l m0 r _ _ _ _ _ _ _ _ _ _ _ _ _ _ _ _ _ _ f2_ hmt) ⟨by omega, by omega⟩ ⟨by omega, by omega⟩ rfl (Nat.le_of_ble_eq_true rfl) dL_law_661 (fun v_ f_ H locs hp2_ hH hS => ?_)
  obtain ⟨rfl, ef_⟩ := hp2_
  rw [ef_] at hH
  clear ef_
  refine W.eq (g2 := F0 m 664 ls [.int k_]) rfl ?_
  refine lv_iload hx hb dL_law_664 (lv_at hl 1 rfl) ?_
  refine lv_icmp_eq (tgt := 671) hx hb dL_law_666 (by decide) (fun _ => ?_) (fun c5 => absurd (rfl) c5)
  refine lv_iload hx hb dL_law_671 (lv_at hl 1 rfl) ?_
  refine lv_if_ne (tgt := 695) hx hb dL_law_673 (by decide) (fun c6 => ?_) (fun c6 => ?_)
  · refine lv_goto (tgt := 1753) hx hb dL_law_695 (by decide) ?_
    refine W.widen (k := cells + 16) (n := slots + 700) (by omega) (by omega) ?_
    exact K_ f2_ H locs hJ2 hH hS ls (lv_sub hl [2, 3, 4, 5, 6, 7] rfl)
  · have hB0 := hBz c6
    revert hB0
    generalize hBB : bI _ = bb_
    intro hB0
    subst hB0
    obtain ⟨BB, eBB⟩ : ∃ BB, b_ = bI BB := ⟨_, hBB.symm⟩
    subst eBB
    refine lv_aload_n hx hb dL_law_676 rfl (lv_at hl 4 rfl) ?_
    refine lv_iconst (v := 0) hx hb dL_law_677 (by decide) ?_
    refine hm_lald hx hb hK hH ho2 (by unfold vp_in; decide) dL_law_678 ?_
    refine lv_topl (fun v7 ev7 => ?_)
    replace ev7 : v7 = ((bI BB).toInt64) := ev7.trans (by show g2 0 = _; exact hg2 c6)
    subst ev7
    refine lv_iload hx hb dL_law_679 (lv_at hl 0 rfl) ?_
    refine lv_if_eq (tgt := 688) hx hb dL_law_681 (by decide) (fun c8 => ?_) (fun c8 => ?_)
    · refine lv_lconst (v := 0) hx hb dL_law_688 (by decide) ?_
      refine W.lcmp hx hb dL_law_689 ?_
      refine lv_if_eq (tgt := 695) hx hb dL_law_690 (by decide) (fun _ => ?_) (fun c10 => absurd (m_cmp.mpr (by rw [bI_0.mp c8]; rfl)) c10)
      refine lv_goto (tgt := 1753) hx hb dL_law_695 (by decide) ?_
      refine W.widen (k := cells + 16) (n := slots + 700) (by omega) (by omega) ?_
      exact K_ f2_ H locs hJ2 hH hS ls (lv_sub hl [2, 3, 4, 5, 6, 7] rfl)
    · refine lv_lconst (v := 1) hx hb dL_law_684 (by decide) ?_
      refine lv_goto (tgt := 689) hx hb dL_law_685 (by decide) ?_
      refine W.lcmp hx hb dL_law_689 ?_
      refine lv_if_eq (tgt := 695) hx hb dL_law_690 (by decide) (fun _ => ?_) (fun c12 => absurd (m_cmp.mpr (by rw [bI_n.mp c8]; rfl)) c12)
      refine lv_goto (tgt := 1753) hx hb dL_law_695 (by decide) ?_
      refine W.widen (k := cells + 16) (n := slots + 700) (by omega) (by omega) ?_
      exact K_ f2_ H locs hJ2 hH hS ls (lv_sub hl [2, 3, 4, 5, 6, 7] rfl)
set_option maxHeartbeats 4000000 in
set_option maxRecDepth 100000 in
theorem cs_price {p : Program} {l : Launch} {e : Env} {R : Room} {s : State} {m : MethodId} {args : Array Value} {below : List Frame} {meth : Method} {c : Code} {Q : State → Prop} (Γ : Gm) (hx : p.tables.exec = Jvm.exec) (hb : c.code = cL_law) (hml : c.maxLocals = 9) (hown : s.vm.findClass "TileWardenLaw" = some m.cls) (hts : ∀ w ∈ lwG, w.before args s = true) (hK : KK Γ s) (hO : hm_O Γ s.heap) (hst : l.stackTraces = false) {b L : Nat} {xs : Nat → Int32} (hX : va_X b L xs s s.heap) (hbl : b < s.heap.size) (hbA : ¬ gA Γ b) (hRf : 400 ≤ R.frames ∧ 10000 ≤ R.locals) {x0 m0 o oD n i : Nat} {r : Nat → Nat} {f : Hm} {H : Heap} {locs : List Loc} {cells slots : Nat} (hcf : cells + 16 ≤ R.cells ∧ slots + 700 ≤ R.slots) (hJ : JS Γ f x0 m0 o oD r n) (hn : n ≤ 511) (hi : i + 4 ≤ L) (hL : L ≤ 2048) (hH : hm_H Γ f H) (hS : va_S (gA Γ) s.heap H locs) (ls : Array Slot) (hl : lv_has ls 9 [(5, .int (nI i)), (4, .ref oD), (3, .ref o), (2, .ref m0), (1, .ref x0), (0, .ref b)])
    (K_ : ∀ (f' : Hm) (H' : Heap) (locs' : List Loc), JS Γ f' x0 m0 o oD r (n + 1) → hm_H Γ f' H' → va_S (gA Γ) s.heap H' locs' → ∀ ls' : Array Slot, lv_has ls' 9 [(5, .int (nI i)), (4, .ref oD), (3, .ref o), (2, .ref m0), (1, .ref x0), (0, .ref b)] → W p l e R s m args below meth c H' locs' (cells + 16) (slots + 700) Q (F0 m 1753 ls' [])) : W p l e R s m args below meth c H locs cells slots Q (F0 m 698 ls []) := by
  obtain ⟨th, K, kp, ck, msh, msm, mso, mf, E, cn, us, so, sh, sm, np, mon, ng, gs, nt, ts, lim, rf, sp, rr, hC, hM, hI, hrI, ⟨g0, ho⟩, ⟨gD, hoD⟩⟩ := hJ
  have h34 := hm_c34 hK
  have hgs := hI.gok (by omega)
  obtain ⟨⟨hnp, hng, hnt, hr1, hrr, hkr⟩, hIg, hdf0, hIt, hIs, ⟨⟨σ, hσ⟩, hIc, hcn, hok, hmk⟩, hrf, hmon⟩ := id hI
  have hkp : kp ≤ 64 := by omega
  have hL4 : i + 3 < L := by omega
  refine lv_aload_n hx hb dL_law_698 rfl (lv_at hl 4 rfl) ?_
  refine lv_aload_n hx hb dL_law_699 rfl (lv_at hl 5 rfl) ?_
  refine lv_iload hx hb dL_law_700 (lv_at hl 0 rfl) ?_
  refine lv_iconst (v := 1) hx hb dL_law_702 (by decide) ?_
  refine lv_iadd hx hb dL_law_703 ?_
  refine lv_topi (fun v1 ev1 => ?_)
  replace ev1 : v1 = nI (i + 1) := ev1.trans (nI_add _ 1)
  subst ev1
  refine va_sld hx hb hX hbl hbA hS (vp_in_nI (by omega) (by omega)) dL_law_704 ?_
  refine lv_topi (fun a2 ea2 => ?_)
  refine lv_aload_n hx hb dL_law_705 rfl (lv_at hl 5 rfl) ?_
  refine lv_iload hx hb dL_law_706 (lv_at hl 0 rfl) ?_
  refine lv_iconst (v := 2) hx hb dL_law_708 (by decide) ?_
  refine lv_iadd hx hb dL_law_709 ?_
  refine lv_topi (fun v3 ev3 => ?_)
  replace ev3 : v3 = nI (i + 2) := ev3.trans (nI_add _ 2)
  subst ev3
  refine va_sld hx hb hX hbl hbA hS (vp_in_nI (by omega) (by omega)) dL_law_710 ?_
  refine lv_topi (fun a4 ea4 => ?_)
  refine lv_aload_n hx hb dL_law_711 rfl (lv_at hl 2 rfl) ?_
  refine hm_callSW (rest := []) (k := 15) q3_217 q3_218 q1_0 q3_219 nm_L_price rfl hx hb hml hown hts hK hO hS hH hl.1 (l_price Γ l x0 mf E cn us so sh sm np mon ng gs nt ts lim rf sp rr o g0 a2 a4 f hst hC hnp hng hnt hr1 hrr hgs hok ho) ⟨by omega, by omega⟩ ⟨by omega, by omega⟩ rfl (Nat.le_of_ble_eq_true rfl) dL_law_712 (fun v1_ f1_ H locs hp_ hH hS => ?_)
  obtain ⟨k_, rfl⟩ := wP.val hp_
  refine W.eq (g2 := F0 m 715 ls [.int k_]) rfl ?_
  have hM1 := hM.kpO ho hp_.2
  obtain ⟨⟨dz, gd, hih, mih, fh, hm1⟩, -⟩ := id hM1
  refine lv_istore (lv' := [(6, .int k_), (5, .int (nI i)), (4, .ref oD), (3, .ref o), (2, .ref m0), (1, .ref x0), (0, .ref b)]) hx hb dL_law_715 hl (by decide) rfl (fun ls hl => ?_)
  refine lv_aload_n hx hb dL_law_717 rfl (lv_at hl 4 rfl) ?_
  refine lv_aload_n hx hb dL_law_718 rfl (lv_at hl 6 rfl) ?_
  refine lv_iload hx hb dL_law_719 (lv_at hl 1 rfl) ?_
  refine lv_iconst (v := 1) hx hb dL_law_721 (by decide) ?_
  refine lv_iadd hx hb dL_law_722 ?_
  refine lv_topi (fun v5 ev5 => ?_)
  replace ev5 : v5 = nI (i + 1) := ev5.trans (nI_add _ 1)
  subst ev5
  refine va_sld hx hb hX hbl hbA hS (vp_in_nI (by omega) (by omega)) dL_law_723 ?_
  refine lv_topi (fun a6 ea6 => ?_)
  replace ea6 : a6 = a2 := ea6.trans ea2.symm
  rw [ea6]
  refine lv_aload_n hx hb dL_law_724 rfl (lv_at hl 6 rfl) ?_
  refine lv_iload hx hb dL_law_725 (lv_at hl 1 rfl) ?_
  refine lv_iconst (v := 2) hx hb dL_law_727 (by decide) ?_
  refine lv_iadd hx hb dL_law_728 ?_
  refine lv_topi (fun v7 ev7 => ?_)
  replace ev7 : v7 = nI (i + 2) := ev7.trans (nI_add _ 2)
  subst ev7
  refine va_sld hx hb hX hbl hbA hS (vp_in_nI (by omega) (by omega)) dL_law_729 ?_
  refine lv_topi (fun a8 ea8 => ?_)
  replace ea8 : a8 = a4 := ea8.trans ea4.symm
  rw [ea8]
  refine hm_callV (rest := []) (k := 6) q5_189 q5_190 q1_9 q5_192 q5_191 rfl nm_X8_price rfl hx hb hml hown hts hK hO hS hH hl.1 hm1 (w_X8_price Γ l m0 r th K kp ck msh msm mso np mon ng gs nt ts lim rf sp rr a2 a4 f1_ hM1 hnp hng hnt hr1 hrr hkr hrI hgs hmk) ⟨by omega, by omega⟩ ⟨by omega, by omega⟩ rfl (Nat.le_of_ble_eq_true rfl) dL_law_730 (fun v2_ f2_ H locs hq_ hH hS => ?_)
  obtain ⟨b_, rfl⟩ := mP.val hq_
  refine W.eq (g2 := F0 m 733 ls [.int b_]) rfl ?_
  obtain ⟨k2, b2, e1_, e2_, hR⟩ := j_price h34 hn hI hM hrI ho hoD hp_ hq_
  cases e1_
  cases e2_
  obtain ⟨⟨y1, y2, y3, y4, y5, y6, y7, y8, y9, y10, y11, y12, y13, y14, y15, y16, y17, hmt⟩, ⟨g2, ho2, hg2⟩, hJ2⟩ := hR
  refine lv_istore (lv' := [(7, .int b_), (6, .int k_), (5, .int (nI i)), (4, .ref oD), (3, .ref o), (2, .ref m0), (1, .ref x0), (0, .ref b)]) hx hb dL_law_733 hl (by decide) rfl (fun ls hl => ?_)
  refine lv_aload_n hx hb dL_law_735 rfl (lv_at hl 5 rfl) ?_
  refine hm_callV (rest := []) (k := 1) q5_111 q5_112 q1_9 q5_114 q5_113 rfl nm_X8_thrown rfl hx hb hml hown hts hK hO hS hH hl.1 hmt (c_X8_thrown Γ l m0 r _ _ _ _ _ _ _ _ _ _ _ _ _ _ _ _ _ _ f2_ hmt) ⟨by omega, by omega⟩ ⟨by omega, by omega⟩ rfl (Nat.le_of_ble_eq_true rfl) dL_law_736 (fun v_ f_ H locs hp2_ hH hS => ?_)
  obtain ⟨rfl, ef_⟩ := hp2_
  rw [ef_] at hH
  clear ef_
  refine W.eq (g2 := F0 m 739 ls [.int k_]) rfl ?_
  refine lv_iload hx hb dL_law_739 (lv_at hl 1 rfl) ?_
  refine lv_icmp_eq (tgt := 746) hx hb dL_law_741 (by decide) (fun _ => ?_) (fun c9 => absurd (rfl) c9)
  refine lv_iload hx hb dL_law_746 (lv_at hl 1 rfl) ?_
  refine lv_if_ne (tgt := 763) hx hb dL_law_748 (by decide) (fun c10 => ?_) (fun c10 => ?_)
  · refine lv_goto (tgt := 1753) hx hb dL_law_763 (by decide) ?_
    refine W.widen (k := cells + 16) (n := slots + 700) (by omega) (by omega) ?_
    exact K_ f2_ H locs hJ2 hH hS ls (lv_sub hl [2, 3, 4, 5, 6, 7] rfl)
  · refine lv_aload_n hx hb dL_law_751 rfl (lv_at hl 4 rfl) ?_
    refine lv_iconst (v := 0) hx hb dL_law_752 (by decide) ?_
    refine hm_lald hx hb hK hH ho2 (by unfold vp_in; decide) dL_law_753 ?_
    refine lv_topl (fun v11 ev11 => ?_)
    replace ev11 : v11 = ((b_).toInt64) := ev11.trans (by show g2 0 = _; exact hg2 c10)
    subst ev11
    refine lv_iload hx hb dL_law_754 (lv_at hl 0 rfl) ?_
    refine lv_i2l hx hb dL_law_756 rfl ?_
    refine lv_topl (fun v12 ev12 => ?_)
    replace ev12 : v12 = ((b_).toInt64) := ev12.trans (rfl)
    subst ev12
    refine W.lcmp hx hb dL_law_757 ?_
    refine lv_if_eq (tgt := 763) hx hb dL_law_758 (by decide) (fun _ => ?_) (fun c14 => absurd (m_cmp.mpr rfl) c14)
    refine lv_goto (tgt := 1753) hx hb dL_law_763 (by decide) ?_
    refine W.widen (k := cells + 16) (n := slots + 700) (by omega) (by omega) ?_
    exact K_ f2_ H locs hJ2 hH hS ls (lv_sub hl [2, 3, 4, 5, 6, 7] rfl)
set_option maxHeartbeats 4000000 in
set_option maxRecDepth 100000 in
theorem cs_hint {p : Program} {l : Launch} {e : Env} {R : Room} {s : State} {m : MethodId} {args : Array Value} {below : List Frame} {meth : Method} {c : Code} {Q : State → Prop} (Γ : Gm) (hx : p.tables.exec = Jvm.exec) (hb : c.code = cL_law) (hml : c.maxLocals = 9) (hown : s.vm.findClass "TileWardenLaw" = some m.cls) (hts : ∀ w ∈ lwG, w.before args s = true) (hK : KK Γ s) (hO : hm_O Γ s.heap) (hst : l.stackTraces = false) {b L : Nat} {xs : Nat → Int32} (hX : va_X b L xs s s.heap) (hbl : b < s.heap.size) (hbA : ¬ gA Γ b) (hRf : 400 ≤ R.frames ∧ 10000 ≤ R.locals) {x0 m0 o oD n i : Nat} {r : Nat → Nat} {f : Hm} {H : Heap} {locs : List Loc} {cells slots : Nat} (hcf : cells + 16 ≤ R.cells ∧ slots + 700 ≤ R.slots) (hJ : JS Γ f x0 m0 o oD r n) (hn : n ≤ 511) (hi : i + 4 ≤ L) (hL : L ≤ 2048) (hH : hm_H Γ f H) (hS : va_S (gA Γ) s.heap H locs) (ls : Array Slot) (hl : lv_has ls 9 [(5, .int (nI i)), (4, .ref oD), (3, .ref o), (2, .ref m0), (1, .ref x0), (0, .ref b)])
    (K_ : ∀ (f' : Hm) (H' : Heap) (locs' : List Loc), JS Γ f' x0 m0 o oD r (n + 1) → hm_H Γ f' H' → va_S (gA Γ) s.heap H' locs' → ∀ ls' : Array Slot, lv_has ls' 9 [(5, .int (nI i)), (4, .ref oD), (3, .ref o), (2, .ref m0), (1, .ref x0), (0, .ref b)] → W p l e R s m args below meth c H' locs' (cells + 16) (slots + 700) Q (F0 m 1753 ls' [])) : W p l e R s m args below meth c H locs cells slots Q (F0 m 766 ls []) := by
  obtain ⟨th, K, kp, ck, msh, msm, mso, mf, E, cn, us, so, sh, sm, np, mon, ng, gs, nt, ts, lim, rf, sp, rr, hC, hM, hI, hrI, ⟨g0, ho⟩, ⟨gD, hoD⟩⟩ := hJ
  have h34 := hm_c34 hK
  have hgs := hI.gok (by omega)
  obtain ⟨⟨hnp, hng, hnt, hr1, hrr, hkr⟩, hIg, hdf0, hIt, hIs, ⟨⟨σ, hσ⟩, hIc, hcn, hok, hmk⟩, hrf, hmon⟩ := id hI
  have hkp : kp ≤ 64 := by omega
  have hL4 : i + 3 < L := by omega
  refine lv_aload_n hx hb dL_law_766 rfl (lv_at hl 4 rfl) ?_
  refine lv_aload_n hx hb dL_law_767 rfl (lv_at hl 5 rfl) ?_
  refine lv_iload hx hb dL_law_768 (lv_at hl 0 rfl) ?_
  refine lv_iconst (v := 1) hx hb dL_law_770 (by decide) ?_
  refine lv_iadd hx hb dL_law_771 ?_
  refine lv_topi (fun v1 ev1 => ?_)
  replace ev1 : v1 = nI (i + 1) := ev1.trans (nI_add _ 1)
  subst ev1
  refine va_sld hx hb hX hbl hbA hS (vp_in_nI (by omega) (by omega)) dL_law_772 ?_
  refine lv_topi (fun a2 ea2 => ?_)
  refine lv_aload_n hx hb dL_law_773 rfl (lv_at hl 5 rfl) ?_
  refine lv_iload hx hb dL_law_774 (lv_at hl 0 rfl) ?_
  refine lv_iconst (v := 2) hx hb dL_law_776 (by decide) ?_
  refine lv_iadd hx hb dL_law_777 ?_
  refine lv_topi (fun v3 ev3 => ?_)
  replace ev3 : v3 = nI (i + 2) := ev3.trans (nI_add _ 2)
  subst ev3
  refine va_sld hx hb hX hbl hbA hS (vp_in_nI (by omega) (by omega)) dL_law_778 ?_
  refine lv_topi (fun a4 ea4 => ?_)
  refine lv_aload_n hx hb dL_law_779 rfl (lv_at hl 2 rfl) ?_
  refine hm_callSW (rest := []) (k := 15) q4_13 q4_14 q1_0 q4_15 nm_L_hint rfl hx hb hml hown hts hK hO hS hH hl.1 (l_hint Γ l x0 mf E cn us so sh sm np mon ng gs nt ts lim rf sp rr o g0 a2 a4 f hst hC hnp hng hnt hr1 hrr hgs hok ho) ⟨by omega, by omega⟩ ⟨by omega, by omega⟩ rfl (Nat.le_of_ble_eq_true rfl) dL_law_780 (fun v1_ f1_ H locs hp_ hH hS => ?_)
  obtain ⟨k_, rfl⟩ := wP.val hp_
  refine W.eq (g2 := F0 m 783 ls [.int k_]) rfl ?_
  have hM1 := hM.kpO ho hp_.2
  obtain ⟨⟨dz, gd, hih, mih, fh, hm1⟩, -⟩ := id hM1
  refine lv_istore (lv' := [(6, .int k_), (5, .int (nI i)), (4, .ref oD), (3, .ref o), (2, .ref m0), (1, .ref x0), (0, .ref b)]) hx hb dL_law_783 hl (by decide) rfl (fun ls hl => ?_)
  refine lv_aload_n hx hb dL_law_785 rfl (lv_at hl 4 rfl) ?_
  refine lv_aload_n hx hb dL_law_786 rfl (lv_at hl 6 rfl) ?_
  refine lv_iload hx hb dL_law_787 (lv_at hl 1 rfl) ?_
  refine lv_iconst (v := 1) hx hb dL_law_789 (by decide) ?_
  refine lv_iadd hx hb dL_law_790 ?_
  refine lv_topi (fun v5 ev5 => ?_)
  replace ev5 : v5 = nI (i + 1) := ev5.trans (nI_add _ 1)
  subst ev5
  refine va_sld hx hb hX hbl hbA hS (vp_in_nI (by omega) (by omega)) dL_law_791 ?_
  refine lv_topi (fun a6 ea6 => ?_)
  replace ea6 : a6 = a2 := ea6.trans ea2.symm
  rw [ea6]
  refine lv_aload_n hx hb dL_law_792 rfl (lv_at hl 6 rfl) ?_
  refine lv_iload hx hb dL_law_793 (lv_at hl 1 rfl) ?_
  refine lv_iconst (v := 2) hx hb dL_law_795 (by decide) ?_
  refine lv_iadd hx hb dL_law_796 ?_
  refine lv_topi (fun v7 ev7 => ?_)
  replace ev7 : v7 = nI (i + 2) := ev7.trans (nI_add _ 2)
  subst ev7
  refine va_sld hx hb hX hbl hbA hS (vp_in_nI (by omega) (by omega)) dL_law_797 ?_
  refine lv_topi (fun a8 ea8 => ?_)
  replace ea8 : a8 = a4 := ea8.trans ea4.symm
  rw [ea8]
  refine hm_callV (rest := []) (k := 6) q5_233 q5_234 q1_9 q5_236 q5_235 rfl nm_X8_hint rfl hx hb hml hown hts hK hO hS hH hl.1 hm1 (w_X8_hint Γ l m0 r th K kp ck msh msm mso np mon ng gs nt ts lim rf sp rr a2 a4 f1_ hM1 hnp hng hnt hr1 hrr hkr hrI hgs hmk) ⟨by omega, by omega⟩ ⟨by omega, by omega⟩ rfl (Nat.le_of_ble_eq_true rfl) dL_law_798 (fun v2_ f2_ H locs hq_ hH hS => ?_)
  obtain ⟨b_, rfl⟩ := mP.val hq_
  refine W.eq (g2 := F0 m 801 ls [.int b_]) rfl ?_
  obtain ⟨k2, b2, e1_, e2_, hR⟩ := j_hint h34 hn hI hM hrI ho hoD hp_ hq_
  cases e1_
  cases e2_
  obtain ⟨⟨y1, y2, y3, y4, y5, y6, y7, y8, y9, y10, y11, y12, y13, y14, y15, y16, y17, hmt⟩, ⟨g2, ho2, hg2⟩, hJ2⟩ := hR
  refine lv_istore (lv' := [(7, .int b_), (6, .int k_), (5, .int (nI i)), (4, .ref oD), (3, .ref o), (2, .ref m0), (1, .ref x0), (0, .ref b)]) hx hb dL_law_801 hl (by decide) rfl (fun ls hl => ?_)
  refine lv_aload_n hx hb dL_law_803 rfl (lv_at hl 5 rfl) ?_
  refine hm_callV (rest := []) (k := 1) q5_111 q5_112 q1_9 q5_114 q5_113 rfl nm_X8_thrown rfl hx hb hml hown hts hK hO hS hH hl.1 hmt (c_X8_thrown Γ l m0 r _ _ _ _ _ _ _ _ _ _ _ _ _ _ _ _ _ _ f2_ hmt) ⟨by omega, by omega⟩ ⟨by omega, by omega⟩ rfl (Nat.le_of_ble_eq_true rfl) dL_law_804 (fun v_ f_ H locs hp2_ hH hS => ?_)
  obtain ⟨rfl, ef_⟩ := hp2_
  rw [ef_] at hH
  clear ef_
  refine W.eq (g2 := F0 m 807 ls [.int k_]) rfl ?_
  refine lv_iload hx hb dL_law_807 (lv_at hl 1 rfl) ?_
  refine lv_icmp_eq (tgt := 814) hx hb dL_law_809 (by decide) (fun _ => ?_) (fun c9 => absurd (rfl) c9)
  refine lv_iload hx hb dL_law_814 (lv_at hl 1 rfl) ?_
  refine lv_if_ne (tgt := 831) hx hb dL_law_816 (by decide) (fun c10 => ?_) (fun c10 => ?_)
  · refine lv_goto (tgt := 1753) hx hb dL_law_831 (by decide) ?_
    refine W.widen (k := cells + 16) (n := slots + 700) (by omega) (by omega) ?_
    exact K_ f2_ H locs hJ2 hH hS ls (lv_sub hl [2, 3, 4, 5, 6, 7] rfl)
  · refine lv_aload_n hx hb dL_law_819 rfl (lv_at hl 4 rfl) ?_
    refine lv_iconst (v := 0) hx hb dL_law_820 (by decide) ?_
    refine hm_lald hx hb hK hH ho2 (by unfold vp_in; decide) dL_law_821 ?_
    refine lv_topl (fun v11 ev11 => ?_)
    replace ev11 : v11 = ((b_).toInt64) := ev11.trans (by show g2 0 = _; exact hg2 c10)
    subst ev11
    refine lv_iload hx hb dL_law_822 (lv_at hl 0 rfl) ?_
    refine lv_i2l hx hb dL_law_824 rfl ?_
    refine lv_topl (fun v12 ev12 => ?_)
    replace ev12 : v12 = ((b_).toInt64) := ev12.trans (rfl)
    subst ev12
    refine W.lcmp hx hb dL_law_825 ?_
    refine lv_if_eq (tgt := 831) hx hb dL_law_826 (by decide) (fun _ => ?_) (fun c14 => absurd (m_cmp.mpr rfl) c14)
    refine lv_goto (tgt := 1753) hx hb dL_law_831 (by decide) ?_
    refine W.widen (k := cells + 16) (n := slots + 700) (by omega) (by omega) ?_
    exact K_ f2_ H locs hJ2 hH hS ls (lv_sub hl [2, 3, 4, 5, 6, 7] rfl)
set_option maxHeartbeats 4000000 in
set_option maxRecDepth 100000 in
theorem cs_worth {p : Program} {l : Launch} {e : Env} {R : Room} {s : State} {m : MethodId} {args : Array Value} {below : List Frame} {meth : Method} {c : Code} {Q : State → Prop} (Γ : Gm) (hx : p.tables.exec = Jvm.exec) (hb : c.code = cL_law) (hml : c.maxLocals = 9) (hown : s.vm.findClass "TileWardenLaw" = some m.cls) (hts : ∀ w ∈ lwG, w.before args s = true) (hK : KK Γ s) (hO : hm_O Γ s.heap) (hst : l.stackTraces = false) {b L : Nat} {xs : Nat → Int32} (hX : va_X b L xs s s.heap) (hbl : b < s.heap.size) (hbA : ¬ gA Γ b) (hRf : 400 ≤ R.frames ∧ 10000 ≤ R.locals) {x0 m0 o oD n i : Nat} {r : Nat → Nat} {f : Hm} {H : Heap} {locs : List Loc} {cells slots : Nat} (hcf : cells + 16 ≤ R.cells ∧ slots + 700 ≤ R.slots) (hJ : JS Γ f x0 m0 o oD r n) (hn : n ≤ 511) (hi : i + 4 ≤ L) (hL : L ≤ 2048) (hH : hm_H Γ f H) (hS : va_S (gA Γ) s.heap H locs) (ls : Array Slot) (hl : lv_has ls 9 [(5, .int (nI i)), (4, .ref oD), (3, .ref o), (2, .ref m0), (1, .ref x0), (0, .ref b)])
    (K_ : ∀ (f' : Hm) (H' : Heap) (locs' : List Loc), JS Γ f' x0 m0 o oD r (n + 1) → hm_H Γ f' H' → va_S (gA Γ) s.heap H' locs' → ∀ ls' : Array Slot, lv_has ls' 9 [(5, .int (nI i)), (4, .ref oD), (3, .ref o), (2, .ref m0), (1, .ref x0), (0, .ref b)] → W p l e R s m args below meth c H' locs' (cells + 16) (slots + 700) Q (F0 m 1753 ls' [])) : W p l e R s m args below meth c H locs cells slots Q (F0 m 834 ls []) := by
  obtain ⟨th, K, kp, ck, msh, msm, mso, mf, E, cn, us, so, sh, sm, np, mon, ng, gs, nt, ts, lim, rf, sp, rr, hC, hM, hI, hrI, ⟨g0, ho⟩, ⟨gD, hoD⟩⟩ := hJ
  have h34 := hm_c34 hK
  have hgs := hI.gok (by omega)
  obtain ⟨⟨hnp, hng, hnt, hr1, hrr, hkr⟩, hIg, hdf0, hIt, hIs, ⟨⟨σ, hσ⟩, hIc, hcn, hok, hmk⟩, hrf, hmon⟩ := id hI
  have hkp : kp ≤ 64 := by omega
  have hL4 : i + 3 < L := by omega
  refine lv_aload_n hx hb dL_law_834 rfl (lv_at hl 4 rfl) ?_
  refine lv_aload_n hx hb dL_law_835 rfl (lv_at hl 5 rfl) ?_
  refine lv_iload hx hb dL_law_836 (lv_at hl 0 rfl) ?_
  refine lv_iconst (v := 1) hx hb dL_law_838 (by decide) ?_
  refine lv_iadd hx hb dL_law_839 ?_
  refine lv_topi (fun v1 ev1 => ?_)
  replace ev1 : v1 = nI (i + 1) := ev1.trans (nI_add _ 1)
  subst ev1
  refine va_sld hx hb hX hbl hbA hS (vp_in_nI (by omega) (by omega)) dL_law_840 ?_
  refine lv_topi (fun a2 ea2 => ?_)
  refine lv_aload_n hx hb dL_law_841 rfl (lv_at hl 5 rfl) ?_
  refine lv_iload hx hb dL_law_842 (lv_at hl 0 rfl) ?_
  refine lv_iconst (v := 2) hx hb dL_law_844 (by decide) ?_
  refine lv_iadd hx hb dL_law_845 ?_
  refine lv_topi (fun v3 ev3 => ?_)
  replace ev3 : v3 = nI (i + 2) := ev3.trans (nI_add _ 2)
  subst ev3
  refine va_sld hx hb hX hbl hbA hS (vp_in_nI (by omega) (by omega)) dL_law_846 ?_
  refine lv_topi (fun a4 ea4 => ?_)
  refine lv_aload_n hx hb dL_law_847 rfl (lv_at hl 2 rfl) ?_
  refine hm_callSW (rest := []) (k := 14) q4_64 q4_65 q1_0 q4_66 nm_L_worth rfl hx hb hml hown hts hK hO hS hH hl.1 (l_worth Γ l x0 mf E cn us so sh sm np mon ng gs nt ts lim rf sp rr o g0 a2 a4 f hst hC hnp hng hnt hr1 hrr hgs  ho) ⟨by omega, by omega⟩ ⟨by omega, by omega⟩ rfl (Nat.le_of_ble_eq_true rfl) dL_law_848 (fun v1_ f1_ H locs hp_ hH hS => ?_)
  obtain ⟨k_, rfl⟩ := wP.val hp_
  refine W.eq (g2 := F0 m 851 ls [.int k_]) rfl ?_
  have hM1 := hM.kpO ho hp_.2
  obtain ⟨⟨dz, gd, hih, mih, fh, hm1⟩, -⟩ := id hM1
  refine lv_istore (lv' := [(6, .int k_), (5, .int (nI i)), (4, .ref oD), (3, .ref o), (2, .ref m0), (1, .ref x0), (0, .ref b)]) hx hb dL_law_851 hl (by decide) rfl (fun ls hl => ?_)
  refine lv_aload_n hx hb dL_law_853 rfl (lv_at hl 4 rfl) ?_
  refine lv_aload_n hx hb dL_law_854 rfl (lv_at hl 6 rfl) ?_
  refine lv_iload hx hb dL_law_855 (lv_at hl 1 rfl) ?_
  refine lv_iconst (v := 1) hx hb dL_law_857 (by decide) ?_
  refine lv_iadd hx hb dL_law_858 ?_
  refine lv_topi (fun v5 ev5 => ?_)
  replace ev5 : v5 = nI (i + 1) := ev5.trans (nI_add _ 1)
  subst ev5
  refine va_sld hx hb hX hbl hbA hS (vp_in_nI (by omega) (by omega)) dL_law_859 ?_
  refine lv_topi (fun a6 ea6 => ?_)
  replace ea6 : a6 = a2 := ea6.trans ea2.symm
  rw [ea6]
  refine lv_aload_n hx hb dL_law_860 rfl (lv_at hl 6 rfl) ?_
  refine lv_iload hx hb dL_law_861 (lv_at hl 1 rfl) ?_
  refine lv_iconst (v := 2) hx hb dL_law_863 (by decide) ?_
  refine lv_iadd hx hb dL_law_864 ?_
  refine lv_topi (fun v7 ev7 => ?_)
  replace ev7 : v7 = nI (i + 2) := ev7.trans (nI_add _ 2)
  subst ev7
  refine va_sld hx hb hX hbl hbA hS (vp_in_nI (by omega) (by omega)) dL_law_865 ?_
  refine lv_topi (fun a8 ea8 => ?_)
  replace ea8 : a8 = a4 := ea8.trans ea4.symm
  rw [ea8]
  refine hm_callV (rest := []) (k := 5) q5_237 q5_238 q1_9 q6_0 q5_239 rfl nm_X8_worth rfl hx hb hml hown hts hK hO hS hH hl.1 hm1 (w_X8_worth Γ l m0 r th K kp ck msh msm mso np mon ng gs nt ts lim rf sp rr a2 a4 f1_ hM1 hnp hng hnt hr1 hrr hkr hrI hgs hmk) ⟨by omega, by omega⟩ ⟨by omega, by omega⟩ rfl (Nat.le_of_ble_eq_true rfl) dL_law_866 (fun v2_ f2_ H locs hq_ hH hS => ?_)
  obtain ⟨b_, rfl⟩ := mP.val hq_
  refine W.eq (g2 := F0 m 869 ls [.int b_]) rfl ?_
  obtain ⟨k2, b2, e1_, e2_, hR⟩ := j_worth h34 hn hI hM hrI ho hoD hp_ hq_
  cases e1_
  cases e2_
  obtain ⟨⟨y1, y2, y3, y4, y5, y6, y7, y8, y9, y10, y11, y12, y13, y14, y15, y16, y17, hmt⟩, ⟨g2, ho2, hg2⟩, hJ2⟩ := hR
  refine lv_istore (lv' := [(7, .int b_), (6, .int k_), (5, .int (nI i)), (4, .ref oD), (3, .ref o), (2, .ref m0), (1, .ref x0), (0, .ref b)]) hx hb dL_law_869 hl (by decide) rfl (fun ls hl => ?_)
  refine lv_aload_n hx hb dL_law_871 rfl (lv_at hl 5 rfl) ?_
  refine hm_callV (rest := []) (k := 1) q5_111 q5_112 q1_9 q5_114 q5_113 rfl nm_X8_thrown rfl hx hb hml hown hts hK hO hS hH hl.1 hmt (c_X8_thrown Γ l m0 r _ _ _ _ _ _ _ _ _ _ _ _ _ _ _ _ _ _ f2_ hmt) ⟨by omega, by omega⟩ ⟨by omega, by omega⟩ rfl (Nat.le_of_ble_eq_true rfl) dL_law_872 (fun v_ f_ H locs hp2_ hH hS => ?_)
  obtain ⟨rfl, ef_⟩ := hp2_
  rw [ef_] at hH
  clear ef_
  refine W.eq (g2 := F0 m 875 ls [.int k_]) rfl ?_
  refine lv_iload hx hb dL_law_875 (lv_at hl 1 rfl) ?_
  refine lv_icmp_eq (tgt := 882) hx hb dL_law_877 (by decide) (fun _ => ?_) (fun c9 => absurd (rfl) c9)
  refine lv_iload hx hb dL_law_882 (lv_at hl 1 rfl) ?_
  refine lv_if_ne (tgt := 899) hx hb dL_law_884 (by decide) (fun c10 => ?_) (fun c10 => ?_)
  · refine lv_goto (tgt := 1753) hx hb dL_law_899 (by decide) ?_
    refine W.widen (k := cells + 16) (n := slots + 700) (by omega) (by omega) ?_
    exact K_ f2_ H locs hJ2 hH hS ls (lv_sub hl [2, 3, 4, 5, 6, 7] rfl)
  · refine lv_aload_n hx hb dL_law_887 rfl (lv_at hl 4 rfl) ?_
    refine lv_iconst (v := 0) hx hb dL_law_888 (by decide) ?_
    refine hm_lald hx hb hK hH ho2 (by unfold vp_in; decide) dL_law_889 ?_
    refine lv_topl (fun v11 ev11 => ?_)
    replace ev11 : v11 = ((b_).toInt64) := ev11.trans (by show g2 0 = _; exact hg2 c10)
    subst ev11
    refine lv_iload hx hb dL_law_890 (lv_at hl 0 rfl) ?_
    refine lv_i2l hx hb dL_law_892 rfl ?_
    refine lv_topl (fun v12 ev12 => ?_)
    replace ev12 : v12 = ((b_).toInt64) := ev12.trans (rfl)
    subst ev12
    refine W.lcmp hx hb dL_law_893 ?_
    refine lv_if_eq (tgt := 899) hx hb dL_law_894 (by decide) (fun _ => ?_) (fun c14 => absurd (m_cmp.mpr rfl) c14)
    refine lv_goto (tgt := 1753) hx hb dL_law_899 (by decide) ?_
    refine W.widen (k := cells + 16) (n := slots + 700) (by omega) (by omega) ?_
    exact K_ f2_ H locs hJ2 hH hS ls (lv_sub hl [2, 3, 4, 5, 6, 7] rfl)
set_option maxHeartbeats 4000000 in
set_option maxRecDepth 100000 in
theorem cs_money {p : Program} {l : Launch} {e : Env} {R : Room} {s : State} {m : MethodId} {args : Array Value} {below : List Frame} {meth : Method} {c : Code} {Q : State → Prop} (Γ : Gm) (hx : p.tables.exec = Jvm.exec) (hb : c.code = cL_law) (hml : c.maxLocals = 9) (hown : s.vm.findClass "TileWardenLaw" = some m.cls) (hts : ∀ w ∈ lwG, w.before args s = true) (hK : KK Γ s) (hO : hm_O Γ s.heap) (hst : l.stackTraces = false) {b L : Nat} {xs : Nat → Int32} (hX : va_X b L xs s s.heap) (hbl : b < s.heap.size) (hbA : ¬ gA Γ b) (hRf : 400 ≤ R.frames ∧ 10000 ≤ R.locals) {x0 m0 o oD n i : Nat} {r : Nat → Nat} {f : Hm} {H : Heap} {locs : List Loc} {cells slots : Nat} (hcf : cells + 16 ≤ R.cells ∧ slots + 700 ≤ R.slots) (hJ : JS Γ f x0 m0 o oD r n) (hn : n ≤ 511) (hi : i + 4 ≤ L) (hL : L ≤ 2048) (hH : hm_H Γ f H) (hS : va_S (gA Γ) s.heap H locs) (ls : Array Slot) (hl : lv_has ls 9 [(5, .int (nI i)), (4, .ref oD), (3, .ref o), (2, .ref m0), (1, .ref x0), (0, .ref b)])
    (K_ : ∀ (f' : Hm) (H' : Heap) (locs' : List Loc), JS Γ f' x0 m0 o oD r (n + 1) → hm_H Γ f' H' → va_S (gA Γ) s.heap H' locs' → ∀ ls' : Array Slot, lv_has ls' 9 [(5, .int (nI i)), (4, .ref oD), (3, .ref o), (2, .ref m0), (1, .ref x0), (0, .ref b)] → W p l e R s m args below meth c H' locs' (cells + 16) (slots + 700) Q (F0 m 1753 ls' [])) : W p l e R s m args below meth c H locs cells slots Q (F0 m 902 ls []) := by
  obtain ⟨th, K, kp, ck, msh, msm, mso, mf, E, cn, us, so, sh, sm, np, mon, ng, gs, nt, ts, lim, rf, sp, rr, hC, hM, hI, hrI, ⟨g0, ho⟩, ⟨gD, hoD⟩⟩ := hJ
  have h34 := hm_c34 hK
  have hgs := hI.gok (by omega)
  obtain ⟨⟨hnp, hng, hnt, hr1, hrr, hkr⟩, hIg, hdf0, hIt, hIs, ⟨⟨σ, hσ⟩, hIc, hcn, hok, hmk⟩, hrf, hmon⟩ := id hI
  have hkp : kp ≤ 64 := by omega
  have hL4 : i + 3 < L := by omega
  refine lv_aload_n hx hb dL_law_902 rfl (lv_at hl 4 rfl) ?_
  refine lv_aload_n hx hb dL_law_903 rfl (lv_at hl 5 rfl) ?_
  refine lv_iload hx hb dL_law_904 (lv_at hl 0 rfl) ?_
  refine lv_iconst (v := 1) hx hb dL_law_906 (by decide) ?_
  refine lv_iadd hx hb dL_law_907 ?_
  refine lv_topi (fun v1 ev1 => ?_)
  replace ev1 : v1 = nI (i + 1) := ev1.trans (nI_add _ 1)
  subst ev1
  refine va_sld hx hb hX hbl hbA hS (vp_in_nI (by omega) (by omega)) dL_law_908 ?_
  refine lv_topi (fun a2 ea2 => ?_)
  refine lv_aload_n hx hb dL_law_909 rfl (lv_at hl 2 rfl) ?_
  refine hm_callSW (rest := []) (k := 7) q4_71 q4_72 q1_0 q4_73 nm_L_money rfl hx hb hml hown hts hK hO hS hH hl.1 (l_money Γ l x0 mf E cn us so sh sm np mon ng gs nt ts lim rf sp rr o g0 a2 f hst hC hnp hng hnt hr1 hrr hgs  ho) ⟨by omega, by omega⟩ ⟨by omega, by omega⟩ rfl (Nat.le_of_ble_eq_true rfl) dL_law_910 (fun v1_ f1_ H locs hp_ hH hS => ?_)
  obtain ⟨k_, rfl⟩ := wP.val hp_
  refine W.eq (g2 := F0 m 913 ls [.int k_]) rfl ?_
  have hM1 := hM.kpO ho hp_.2
  obtain ⟨⟨dz, gd, hih, mih, fh, hm1⟩, -⟩ := id hM1
  refine lv_istore (lv' := [(6, .int k_), (5, .int (nI i)), (4, .ref oD), (3, .ref o), (2, .ref m0), (1, .ref x0), (0, .ref b)]) hx hb dL_law_913 hl (by decide) rfl (fun ls hl => ?_)
  refine lv_aload_n hx hb dL_law_915 rfl (lv_at hl 4 rfl) ?_
  refine lv_aload_n hx hb dL_law_916 rfl (lv_at hl 6 rfl) ?_
  refine lv_iload hx hb dL_law_917 (lv_at hl 1 rfl) ?_
  refine lv_iconst (v := 1) hx hb dL_law_919 (by decide) ?_
  refine lv_iadd hx hb dL_law_920 ?_
  refine lv_topi (fun v3 ev3 => ?_)
  replace ev3 : v3 = nI (i + 1) := ev3.trans (nI_add _ 1)
  subst ev3
  refine va_sld hx hb hX hbl hbA hS (vp_in_nI (by omega) (by omega)) dL_law_921 ?_
  refine lv_topi (fun a4 ea4 => ?_)
  replace ea4 : a4 = a2 := ea4.trans ea2.symm
  rw [ea4]
  refine hm_callV (rest := []) (k := 2) q6_1 q6_2 q1_9 q6_4 q6_3 rfl nm_X8_money rfl hx hb hml hown hts hK hO hS hH hl.1 hm1 (w_X8_money Γ l m0 r th K kp ck msh msm mso np mon ng gs nt ts lim rf sp rr a2 f1_ hM1 hnp hng hnt hr1 hrr hkr hrI hgs ) ⟨by omega, by omega⟩ ⟨by omega, by omega⟩ rfl (Nat.le_of_ble_eq_true rfl) dL_law_922 (fun v2_ f2_ H locs hq_ hH hS => ?_)
  obtain ⟨b_, rfl⟩ := mP.val hq_
  refine W.eq (g2 := F0 m 925 ls [.int b_]) rfl ?_
  obtain ⟨k2, b2, e1_, e2_, hR⟩ := j_money h34 hn hI hM hrI ho hoD hp_ hq_
  cases e1_
  cases e2_
  obtain ⟨⟨y1, y2, y3, y4, y5, y6, y7, y8, y9, y10, y11, y12, y13, y14, y15, y16, y17, hmt⟩, ⟨g2, ho2, hg2⟩, hJ2⟩ := hR
  refine lv_istore (lv' := [(7, .int b_), (6, .int k_), (5, .int (nI i)), (4, .ref oD), (3, .ref o), (2, .ref m0), (1, .ref x0), (0, .ref b)]) hx hb dL_law_925 hl (by decide) rfl (fun ls hl => ?_)
  refine lv_aload_n hx hb dL_law_927 rfl (lv_at hl 5 rfl) ?_
  refine hm_callV (rest := []) (k := 1) q5_111 q5_112 q1_9 q5_114 q5_113 rfl nm_X8_thrown rfl hx hb hml hown hts hK hO hS hH hl.1 hmt (c_X8_thrown Γ l m0 r _ _ _ _ _ _ _ _ _ _ _ _ _ _ _ _ _ _ f2_ hmt) ⟨by omega, by omega⟩ ⟨by omega, by omega⟩ rfl (Nat.le_of_ble_eq_true rfl) dL_law_928 (fun v_ f_ H locs hp2_ hH hS => ?_)
  obtain ⟨rfl, ef_⟩ := hp2_
  rw [ef_] at hH
  clear ef_
  refine W.eq (g2 := F0 m 931 ls [.int k_]) rfl ?_
  refine lv_iload hx hb dL_law_931 (lv_at hl 1 rfl) ?_
  refine lv_icmp_eq (tgt := 938) hx hb dL_law_933 (by decide) (fun _ => ?_) (fun c5 => absurd (rfl) c5)
  refine lv_iload hx hb dL_law_938 (lv_at hl 1 rfl) ?_
  refine lv_if_ne (tgt := 955) hx hb dL_law_940 (by decide) (fun c6 => ?_) (fun c6 => ?_)
  · refine lv_goto (tgt := 1753) hx hb dL_law_955 (by decide) ?_
    refine W.widen (k := cells + 16) (n := slots + 700) (by omega) (by omega) ?_
    exact K_ f2_ H locs hJ2 hH hS ls (lv_sub hl [2, 3, 4, 5, 6, 7] rfl)
  · refine lv_aload_n hx hb dL_law_943 rfl (lv_at hl 4 rfl) ?_
    refine lv_iconst (v := 0) hx hb dL_law_944 (by decide) ?_
    refine hm_lald hx hb hK hH ho2 (by unfold vp_in; decide) dL_law_945 ?_
    refine lv_topl (fun v7 ev7 => ?_)
    replace ev7 : v7 = ((b_).toInt64) := ev7.trans (by show g2 0 = _; exact hg2 c6)
    subst ev7
    refine lv_iload hx hb dL_law_946 (lv_at hl 0 rfl) ?_
    refine lv_i2l hx hb dL_law_948 rfl ?_
    refine lv_topl (fun v8 ev8 => ?_)
    replace ev8 : v8 = ((b_).toInt64) := ev8.trans (rfl)
    subst ev8
    refine W.lcmp hx hb dL_law_949 ?_
    refine lv_if_eq (tgt := 955) hx hb dL_law_950 (by decide) (fun _ => ?_) (fun c10 => absurd (m_cmp.mpr rfl) c10)
    refine lv_goto (tgt := 1753) hx hb dL_law_955 (by decide) ?_
    refine W.widen (k := cells + 16) (n := slots + 700) (by omega) (by omega) ?_
    exact K_ f2_ H locs hJ2 hH hS ls (lv_sub hl [2, 3, 4, 5, 6, 7] rfl)
set_option maxHeartbeats 4000000 in
set_option maxRecDepth 100000 in
theorem cs_setRoom {p : Program} {l : Launch} {e : Env} {R : Room} {s : State} {m : MethodId} {args : Array Value} {below : List Frame} {meth : Method} {c : Code} {Q : State → Prop} (Γ : Gm) (hx : p.tables.exec = Jvm.exec) (hb : c.code = cL_law) (hml : c.maxLocals = 9) (hown : s.vm.findClass "TileWardenLaw" = some m.cls) (hts : ∀ w ∈ lwG, w.before args s = true) (hK : KK Γ s) (hO : hm_O Γ s.heap) (hst : l.stackTraces = false) {b L : Nat} {xs : Nat → Int32} (hX : va_X b L xs s s.heap) (hbl : b < s.heap.size) (hbA : ¬ gA Γ b) (hRf : 400 ≤ R.frames ∧ 10000 ≤ R.locals) {x0 m0 o oD n i : Nat} {r : Nat → Nat} {f : Hm} {H : Heap} {locs : List Loc} {cells slots : Nat} (hcf : cells + 16 ≤ R.cells ∧ slots + 700 ≤ R.slots) (hJ : JS Γ f x0 m0 o oD r n) (hn : n ≤ 511) (hi : i + 4 ≤ L) (hL : L ≤ 2048) (hH : hm_H Γ f H) (hS : va_S (gA Γ) s.heap H locs) (ls : Array Slot) (hl : lv_has ls 9 [(5, .int (nI i)), (4, .ref oD), (3, .ref o), (2, .ref m0), (1, .ref x0), (0, .ref b)])
    (K_ : ∀ (f' : Hm) (H' : Heap) (locs' : List Loc), JS Γ f' x0 m0 o oD r (n + 1) → hm_H Γ f' H' → va_S (gA Γ) s.heap H' locs' → ∀ ls' : Array Slot, lv_has ls' 9 [(5, .int (nI i)), (4, .ref oD), (3, .ref o), (2, .ref m0), (1, .ref x0), (0, .ref b)] → W p l e R s m args below meth c H' locs' (cells + 16) (slots + 700) Q (F0 m 1753 ls' [])) : W p l e R s m args below meth c H locs cells slots Q (F0 m 958 ls []) := by
  obtain ⟨th, K, kp, ck, msh, msm, mso, mf, E, cn, us, so, sh, sm, np, mon, ng, gs, nt, ts, lim, rf, sp, rr, hC, hM, hI, hrI, ⟨g0, ho⟩, ⟨gD, hoD⟩⟩ := hJ
  have h34 := hm_c34 hK
  have hgs := hI.gok (by omega)
  obtain ⟨⟨hnp, hng, hnt, hr1, hrr, hkr⟩, hIg, hdf0, hIt, hIs, ⟨⟨σ, hσ⟩, hIc, hcn, hok, hmk⟩, hrf, hmon⟩ := id hI
  have hkp : kp ≤ 64 := by omega
  have hL4 : i + 3 < L := by omega
  refine lv_aload_n hx hb dL_law_958 rfl (lv_at hl 4 rfl) ?_
  refine lv_aload_n hx hb dL_law_959 rfl (lv_at hl 5 rfl) ?_
  refine lv_iload hx hb dL_law_960 (lv_at hl 0 rfl) ?_
  refine lv_iconst (v := 1) hx hb dL_law_962 (by decide) ?_
  refine lv_iadd hx hb dL_law_963 ?_
  refine lv_topi (fun v1 ev1 => ?_)
  replace ev1 : v1 = nI (i + 1) := ev1.trans (nI_add _ 1)
  subst ev1
  refine va_sld hx hb hX hbl hbA hS (vp_in_nI (by omega) (by omega)) dL_law_964 ?_
  refine lv_topi (fun a2 ea2 => ?_)
  refine lv_aload_n hx hb dL_law_965 rfl (lv_at hl 2 rfl) ?_
  refine hm_callSW (rest := []) (k := 5) q4_78 q4_79 q1_0 q4_80 nm_L_setRoom rfl hx hb hml hown hts hK hO hS hH hl.1 (l_setRoom Γ l x0 mf E cn us so sh sm np mon ng gs nt ts lim rf sp rr o g0 a2 f hst hC hnp hng hnt hr1 hrr hgs kp hkp hcn ho) ⟨by omega, by omega⟩ ⟨by omega, by omega⟩ rfl (Nat.le_of_ble_eq_true rfl) dL_law_966 (fun v1_ f1_ H locs hp_ hH hS => ?_)
  obtain ⟨k_, rfl⟩ := wP.val hp_
  refine W.eq (g2 := F0 m 969 ls [.int k_]) rfl ?_
  have hM1 := hM.kpO ho hp_.2
  obtain ⟨⟨dz, gd, hih, mih, fh, hm1⟩, -⟩ := id hM1
  refine lv_istore (lv' := [(6, .int k_), (5, .int (nI i)), (4, .ref oD), (3, .ref o), (2, .ref m0), (1, .ref x0), (0, .ref b)]) hx hb dL_law_969 hl (by decide) rfl (fun ls hl => ?_)
  refine lv_aload_n hx hb dL_law_971 rfl (lv_at hl 4 rfl) ?_
  refine lv_aload_n hx hb dL_law_972 rfl (lv_at hl 6 rfl) ?_
  refine lv_iload hx hb dL_law_973 (lv_at hl 1 rfl) ?_
  refine lv_iconst (v := 1) hx hb dL_law_975 (by decide) ?_
  refine lv_iadd hx hb dL_law_976 ?_
  refine lv_topi (fun v3 ev3 => ?_)
  replace ev3 : v3 = nI (i + 1) := ev3.trans (nI_add _ 1)
  subst ev3
  refine va_sld hx hb hX hbl hbA hS (vp_in_nI (by omega) (by omega)) dL_law_977 ?_
  refine lv_topi (fun a4 ea4 => ?_)
  replace ea4 : a4 = a2 := ea4.trans ea2.symm
  rw [ea4]
  refine hm_callV (rest := []) (k := 3) q6_5 q6_6 q1_9 q6_8 q6_7 rfl nm_X8_setRoom rfl hx hb hml hown hts hK hO hS hH hl.1 hm1 (w_X8_setRoom Γ l m0 r th K kp ck msh msm mso np mon ng gs nt ts lim rf sp rr a2 f1_ hM1 hnp hng hnt hr1 hrr hkr hrI hgs ) ⟨by omega, by omega⟩ ⟨by omega, by omega⟩ rfl (Nat.le_of_ble_eq_true rfl) dL_law_978 (fun v2_ f2_ H locs hq_ hH hS => ?_)
  obtain ⟨b_, rfl⟩ := mP.val hq_
  refine W.eq (g2 := F0 m 981 ls [.int b_]) rfl ?_
  obtain ⟨k2, b2, e1_, e2_, hR⟩ := j_setRoom h34 hn hI hM hrI ho hoD hp_ hq_
  cases e1_
  cases e2_
  obtain ⟨⟨y1, y2, y3, y4, y5, y6, y7, y8, y9, y10, y11, y12, y13, y14, y15, y16, y17, hmt⟩, ⟨g2, ho2, hg2⟩, hJ2⟩ := hR
  refine lv_istore (lv' := [(7, .int b_), (6, .int k_), (5, .int (nI i)), (4, .ref oD), (3, .ref o), (2, .ref m0), (1, .ref x0), (0, .ref b)]) hx hb dL_law_981 hl (by decide) rfl (fun ls hl => ?_)
  refine lv_aload_n hx hb dL_law_983 rfl (lv_at hl 5 rfl) ?_
  refine hm_callV (rest := []) (k := 1) q5_111 q5_112 q1_9 q5_114 q5_113 rfl nm_X8_thrown rfl hx hb hml hown hts hK hO hS hH hl.1 hmt (c_X8_thrown Γ l m0 r _ _ _ _ _ _ _ _ _ _ _ _ _ _ _ _ _ _ f2_ hmt) ⟨by omega, by omega⟩ ⟨by omega, by omega⟩ rfl (Nat.le_of_ble_eq_true rfl) dL_law_984 (fun v_ f_ H locs hp2_ hH hS => ?_)
  obtain ⟨rfl, ef_⟩ := hp2_
  rw [ef_] at hH
  clear ef_
  refine W.eq (g2 := F0 m 987 ls [.int k_]) rfl ?_
  refine lv_iload hx hb dL_law_987 (lv_at hl 1 rfl) ?_
  refine lv_icmp_eq (tgt := 994) hx hb dL_law_989 (by decide) (fun _ => ?_) (fun c5 => absurd (rfl) c5)
  refine lv_iload hx hb dL_law_994 (lv_at hl 1 rfl) ?_
  refine lv_if_ne (tgt := 1011) hx hb dL_law_996 (by decide) (fun c6 => ?_) (fun c6 => ?_)
  · refine lv_goto (tgt := 1753) hx hb dL_law_1011 (by decide) ?_
    refine W.widen (k := cells + 16) (n := slots + 700) (by omega) (by omega) ?_
    exact K_ f2_ H locs hJ2 hH hS ls (lv_sub hl [2, 3, 4, 5, 6, 7] rfl)
  · refine lv_aload_n hx hb dL_law_999 rfl (lv_at hl 4 rfl) ?_
    refine lv_iconst (v := 0) hx hb dL_law_1000 (by decide) ?_
    refine hm_lald hx hb hK hH ho2 (by unfold vp_in; decide) dL_law_1001 ?_
    refine lv_topl (fun v7 ev7 => ?_)
    replace ev7 : v7 = ((b_).toInt64) := ev7.trans (by show g2 0 = _; exact hg2 c6)
    subst ev7
    refine lv_iload hx hb dL_law_1002 (lv_at hl 0 rfl) ?_
    refine lv_i2l hx hb dL_law_1004 rfl ?_
    refine lv_topl (fun v8 ev8 => ?_)
    replace ev8 : v8 = ((b_).toInt64) := ev8.trans (rfl)
    subst ev8
    refine W.lcmp hx hb dL_law_1005 ?_
    refine lv_if_eq (tgt := 1011) hx hb dL_law_1006 (by decide) (fun _ => ?_) (fun c10 => absurd (m_cmp.mpr rfl) c10)
    refine lv_goto (tgt := 1753) hx hb dL_law_1011 (by decide) ?_
    refine W.widen (k := cells + 16) (n := slots + 700) (by omega) (by omega) ?_
    exact K_ f2_ H locs hJ2 hH hS ls (lv_sub hl [2, 3, 4, 5, 6, 7] rfl)
set_option maxHeartbeats 4000000 in
set_option maxRecDepth 100000 in
theorem cs_isCached {p : Program} {l : Launch} {e : Env} {R : Room} {s : State} {m : MethodId} {args : Array Value} {below : List Frame} {meth : Method} {c : Code} {Q : State → Prop} (Γ : Gm) (hx : p.tables.exec = Jvm.exec) (hb : c.code = cL_law) (hml : c.maxLocals = 9) (hown : s.vm.findClass "TileWardenLaw" = some m.cls) (hts : ∀ w ∈ lwG, w.before args s = true) (hK : KK Γ s) (hO : hm_O Γ s.heap) (hst : l.stackTraces = false) {b L : Nat} {xs : Nat → Int32} (hX : va_X b L xs s s.heap) (hbl : b < s.heap.size) (hbA : ¬ gA Γ b) (hRf : 400 ≤ R.frames ∧ 10000 ≤ R.locals) {x0 m0 o oD n i : Nat} {r : Nat → Nat} {f : Hm} {H : Heap} {locs : List Loc} {cells slots : Nat} (hcf : cells + 16 ≤ R.cells ∧ slots + 700 ≤ R.slots) (hJ : JS Γ f x0 m0 o oD r n) (hn : n ≤ 511) (hi : i + 4 ≤ L) (hL : L ≤ 2048) (hH : hm_H Γ f H) (hS : va_S (gA Γ) s.heap H locs) (ls : Array Slot) (hl : lv_has ls 9 [(5, .int (nI i)), (4, .ref oD), (3, .ref o), (2, .ref m0), (1, .ref x0), (0, .ref b)])
    (K_ : ∀ (f' : Hm) (H' : Heap) (locs' : List Loc), JS Γ f' x0 m0 o oD r (n + 1) → hm_H Γ f' H' → va_S (gA Γ) s.heap H' locs' → ∀ ls' : Array Slot, lv_has ls' 9 [(5, .int (nI i)), (4, .ref oD), (3, .ref o), (2, .ref m0), (1, .ref x0), (0, .ref b)] → W p l e R s m args below meth c H' locs' (cells + 16) (slots + 700) Q (F0 m 1753 ls' [])) : W p l e R s m args below meth c H locs cells slots Q (F0 m 1027 ls []) := by
  obtain ⟨th, K, kp, ck, msh, msm, mso, mf, E, cn, us, so, sh, sm, np, mon, ng, gs, nt, ts, lim, rf, sp, rr, hC, hM, hI, hrI, ⟨g0, ho⟩, ⟨gD, hoD⟩⟩ := hJ
  have h34 := hm_c34 hK
  have hgs := hI.gok (by omega)
  obtain ⟨⟨hnp, hng, hnt, hr1, hrr, hkr⟩, hIg, hdf0, hIt, hIs, ⟨⟨σ, hσ⟩, hIc, hcn, hok, hmk⟩, hrf, hmon⟩ := id hI
  have hkp : kp ≤ 64 := by omega
  have hL4 : i + 3 < L := by omega
  refine lv_aload_n hx hb dL_law_1027 rfl (lv_at hl 4 rfl) ?_
  refine lv_aload_n hx hb dL_law_1028 rfl (lv_at hl 5 rfl) ?_
  refine lv_iload hx hb dL_law_1029 (lv_at hl 0 rfl) ?_
  refine lv_iconst (v := 1) hx hb dL_law_1031 (by decide) ?_
  refine lv_iadd hx hb dL_law_1032 ?_
  refine lv_topi (fun v1 ev1 => ?_)
  replace ev1 : v1 = nI (i + 1) := ev1.trans (nI_add _ 1)
  subst ev1
  refine va_sld hx hb hX hbl hbA hS (vp_in_nI (by omega) (by omega)) dL_law_1033 ?_
  refine lv_topi (fun a2 ea2 => ?_)
  refine lv_aload_n hx hb dL_law_1034 rfl (lv_at hl 5 rfl) ?_
  refine lv_iload hx hb dL_law_1035 (lv_at hl 0 rfl) ?_
  refine lv_iconst (v := 2) hx hb dL_law_1037 (by decide) ?_
  refine lv_iadd hx hb dL_law_1038 ?_
  refine lv_topi (fun v3 ev3 => ?_)
  replace ev3 : v3 = nI (i + 2) := ev3.trans (nI_add _ 2)
  subst ev3
  refine va_sld hx hb hX hbl hbA hS (vp_in_nI (by omega) (by omega)) dL_law_1039 ?_
  refine lv_topi (fun a4 ea4 => ?_)
  refine lv_aload_n hx hb dL_law_1040 rfl (lv_at hl 2 rfl) ?_
  refine hm_callSW (rest := []) (k := 7) q4_91 q4_92 q1_0 q4_93 nm_L_isCached rfl hx hb hml hown hts hK hO hS hH hl.1 (l_isCached Γ l x0 mf E cn us so sh sm np mon ng gs nt ts lim rf sp rr o g0 a2 a4 f hst hC hnp hng hnt hr1 hrr hgs  ho) ⟨by omega, by omega⟩ ⟨by omega, by omega⟩ rfl (Nat.le_of_ble_eq_true rfl) dL_law_1041 (fun v1_ f1_ H locs hp_ hH hS => ?_)
  obtain ⟨k_, rfl⟩ := wP.val hp_
  refine W.eq (g2 := F0 m 1044 ls [.int k_]) rfl ?_
  have hM1 := hM.kpO ho hp_.2
  obtain ⟨⟨dz, gd, hih, mih, fh, hm1⟩, -⟩ := id hM1
  refine lv_istore (lv' := [(6, .int k_), (5, .int (nI i)), (4, .ref oD), (3, .ref o), (2, .ref m0), (1, .ref x0), (0, .ref b)]) hx hb dL_law_1044 hl (by decide) rfl (fun ls hl => ?_)
  refine lv_aload_n hx hb dL_law_1046 rfl (lv_at hl 4 rfl) ?_
  refine lv_aload_n hx hb dL_law_1047 rfl (lv_at hl 6 rfl) ?_
  refine lv_iload hx hb dL_law_1048 (lv_at hl 1 rfl) ?_
  refine lv_iconst (v := 1) hx hb dL_law_1050 (by decide) ?_
  refine lv_iadd hx hb dL_law_1051 ?_
  refine lv_topi (fun v5 ev5 => ?_)
  replace ev5 : v5 = nI (i + 1) := ev5.trans (nI_add _ 1)
  subst ev5
  refine va_sld hx hb hX hbl hbA hS (vp_in_nI (by omega) (by omega)) dL_law_1052 ?_
  refine lv_topi (fun a6 ea6 => ?_)
  replace ea6 : a6 = a2 := ea6.trans ea2.symm
  rw [ea6]
  refine lv_aload_n hx hb dL_law_1053 rfl (lv_at hl 6 rfl) ?_
  refine lv_iload hx hb dL_law_1054 (lv_at hl 1 rfl) ?_
  refine lv_iconst (v := 2) hx hb dL_law_1056 (by decide) ?_
  refine lv_iadd hx hb dL_law_1057 ?_
  refine lv_topi (fun v7 ev7 => ?_)
  replace ev7 : v7 = nI (i + 2) := ev7.trans (nI_add _ 2)
  subst ev7
  refine va_sld hx hb hX hbl hbA hS (vp_in_nI (by omega) (by omega)) dL_law_1058 ?_
  refine lv_topi (fun a8 ea8 => ?_)
  replace ea8 : a8 = a4 := ea8.trans ea4.symm
  rw [ea8]
  refine hm_callV (rest := []) (k := 4) q6_17 q6_18 q1_9 q6_20 q6_19 rfl nm_X8_isCached rfl hx hb hml hown hts hK hO hS hH hl.1 hm1 (w_X8_isCached Γ l m0 r th K kp ck msh msm mso np mon ng gs nt ts lim rf sp rr a2 a4 f1_ hM1 hnp hng hnt hr1 hrr hkr hrI hgs ) ⟨by omega, by omega⟩ ⟨by omega, by omega⟩ rfl (Nat.le_of_ble_eq_true rfl) dL_law_1059 (fun v2_ f2_ H locs hq_ hH hS => ?_)
  obtain ⟨b_, rfl⟩ := mP.val hq_
  refine W.eq (g2 := F0 m 1062 ls [.int b_]) rfl ?_
  have hBz : k_ = 0 → b_ = _ := fun z => mP.bool hq_ (wP.zero hp_ z)
  obtain ⟨k2, b2, e1_, e2_, hR⟩ := j_isCached h34 hn hI hM hrI ho hoD hp_ hq_
  cases e1_
  cases e2_
  obtain ⟨⟨y1, y2, y3, y4, y5, y6, y7, y8, y9, y10, y11, y12, y13, y14, y15, y16, y17, hmt⟩, ⟨g2, ho2, hg2⟩, hJ2⟩ := hR
  refine lv_istore (lv' := [(7, .int b_), (6, .int k_), (5, .int (nI i)), (4, .ref oD), (3, .ref o), (2, .ref m0), (1, .ref x0), (0, .ref b)]) hx hb dL_law_1062 hl (by decide) rfl (fun ls hl => ?_)
  refine lv_aload_n hx hb dL_law_1064 rfl (lv_at hl 5 rfl) ?_
  refine hm_callV (rest := []) (k := 1) q5_111 q5_112 q1_9 q5_114 q5_113 rfl nm_X8_thrown rfl hx hb hml hown hts hK hO hS hH hl.1 hmt (c_X8_thrown Γ l m0 r _ _ _ _ _ _ _ _ _ _ _ _ _ _ _ _ _ _ f2_ hmt) ⟨by omega, by omega⟩ ⟨by omega, by omega⟩ rfl (Nat.le_of_ble_eq_true rfl) dL_law_1065 (fun v_ f_ H locs hp2_ hH hS => ?_)
  obtain ⟨rfl, ef_⟩ := hp2_
  rw [ef_] at hH
  clear ef_
  refine W.eq (g2 := F0 m 1068 ls [.int k_]) rfl ?_
  refine lv_iload hx hb dL_law_1068 (lv_at hl 1 rfl) ?_
  refine lv_icmp_eq (tgt := 1075) hx hb dL_law_1070 (by decide) (fun _ => ?_) (fun c9 => absurd (rfl) c9)
  refine lv_iload hx hb dL_law_1075 (lv_at hl 1 rfl) ?_
  refine lv_if_ne (tgt := 1099) hx hb dL_law_1077 (by decide) (fun c10 => ?_) (fun c10 => ?_)
  · refine lv_goto (tgt := 1753) hx hb dL_law_1099 (by decide) ?_
    refine W.widen (k := cells + 16) (n := slots + 700) (by omega) (by omega) ?_
    exact K_ f2_ H locs hJ2 hH hS ls (lv_sub hl [2, 3, 4, 5, 6, 7] rfl)
  · have hB0 := hBz c10
    revert hB0
    generalize hBB : bI _ = bb_
    intro hB0
    subst hB0
    obtain ⟨BB, eBB⟩ : ∃ BB, b_ = bI BB := ⟨_, hBB.symm⟩
    subst eBB
    refine lv_aload_n hx hb dL_law_1080 rfl (lv_at hl 4 rfl) ?_
    refine lv_iconst (v := 0) hx hb dL_law_1081 (by decide) ?_
    refine hm_lald hx hb hK hH ho2 (by unfold vp_in; decide) dL_law_1082 ?_
    refine lv_topl (fun v11 ev11 => ?_)
    replace ev11 : v11 = ((bI BB).toInt64) := ev11.trans (by show g2 0 = _; exact hg2 c10)
    subst ev11
    refine lv_iload hx hb dL_law_1083 (lv_at hl 0 rfl) ?_
    refine lv_if_eq (tgt := 1092) hx hb dL_law_1085 (by decide) (fun c12 => ?_) (fun c12 => ?_)
    · refine lv_lconst (v := 0) hx hb dL_law_1092 (by decide) ?_
      refine W.lcmp hx hb dL_law_1093 ?_
      refine lv_if_eq (tgt := 1099) hx hb dL_law_1094 (by decide) (fun _ => ?_) (fun c14 => absurd (m_cmp.mpr (by rw [bI_0.mp c12]; rfl)) c14)
      refine lv_goto (tgt := 1753) hx hb dL_law_1099 (by decide) ?_
      refine W.widen (k := cells + 16) (n := slots + 700) (by omega) (by omega) ?_
      exact K_ f2_ H locs hJ2 hH hS ls (lv_sub hl [2, 3, 4, 5, 6, 7] rfl)
    · refine lv_lconst (v := 1) hx hb dL_law_1088 (by decide) ?_
      refine lv_goto (tgt := 1093) hx hb dL_law_1089 (by decide) ?_
      refine W.lcmp hx hb dL_law_1093 ?_
      refine lv_if_eq (tgt := 1099) hx hb dL_law_1094 (by decide) (fun _ => ?_) (fun c16 => absurd (m_cmp.mpr (by rw [bI_n.mp c12]; rfl)) c16)
      refine lv_goto (tgt := 1753) hx hb dL_law_1099 (by decide) ?_
      refine W.widen (k := cells + 16) (n := slots + 700) (by omega) (by omega) ?_
      exact K_ f2_ H locs hJ2 hH hS ls (lv_sub hl [2, 3, 4, 5, 6, 7] rfl)
set_option maxHeartbeats 4000000 in
set_option maxRecDepth 100000 in
theorem cs_pin {p : Program} {l : Launch} {e : Env} {R : Room} {s : State} {m : MethodId} {args : Array Value} {below : List Frame} {meth : Method} {c : Code} {Q : State → Prop} (Γ : Gm) (hx : p.tables.exec = Jvm.exec) (hb : c.code = cL_law) (hml : c.maxLocals = 9) (hown : s.vm.findClass "TileWardenLaw" = some m.cls) (hts : ∀ w ∈ lwG, w.before args s = true) (hK : KK Γ s) (hO : hm_O Γ s.heap) (hst : l.stackTraces = false) {b L : Nat} {xs : Nat → Int32} (hX : va_X b L xs s s.heap) (hbl : b < s.heap.size) (hbA : ¬ gA Γ b) (hRf : 400 ≤ R.frames ∧ 10000 ≤ R.locals) {x0 m0 o oD n i : Nat} {r : Nat → Nat} {f : Hm} {H : Heap} {locs : List Loc} {cells slots : Nat} (hcf : cells + 16 ≤ R.cells ∧ slots + 700 ≤ R.slots) (hJ : JS Γ f x0 m0 o oD r n) (hn : n ≤ 511) (hi : i + 4 ≤ L) (hL : L ≤ 2048) (hH : hm_H Γ f H) (hS : va_S (gA Γ) s.heap H locs) (ls : Array Slot) (hl : lv_has ls 9 [(5, .int (nI i)), (4, .ref oD), (3, .ref o), (2, .ref m0), (1, .ref x0), (0, .ref b)])
    (K_ : ∀ (f' : Hm) (H' : Heap) (locs' : List Loc), JS Γ f' x0 m0 o oD r (n + 1) → hm_H Γ f' H' → va_S (gA Γ) s.heap H' locs' → ∀ ls' : Array Slot, lv_has ls' 9 [(5, .int (nI i)), (4, .ref oD), (3, .ref o), (2, .ref m0), (1, .ref x0), (0, .ref b)] → W p l e R s m args below meth c H' locs' (cells + 16) (slots + 700) Q (F0 m 1753 ls' [])) : W p l e R s m args below meth c H locs cells slots Q (F0 m 1102 ls []) := by
  obtain ⟨th, K, kp, ck, msh, msm, mso, mf, E, cn, us, so, sh, sm, np, mon, ng, gs, nt, ts, lim, rf, sp, rr, hC, hM, hI, hrI, ⟨g0, ho⟩, ⟨gD, hoD⟩⟩ := hJ
  have h34 := hm_c34 hK
  have hgs := hI.gok (by omega)
  obtain ⟨⟨hnp, hng, hnt, hr1, hrr, hkr⟩, hIg, hdf0, hIt, hIs, ⟨⟨σ, hσ⟩, hIc, hcn, hok, hmk⟩, hrf, hmon⟩ := id hI
  have hkp : kp ≤ 64 := by omega
  have hL4 : i + 3 < L := by omega
  refine lv_aload_n hx hb dL_law_1102 rfl (lv_at hl 4 rfl) ?_
  refine lv_aload_n hx hb dL_law_1103 rfl (lv_at hl 5 rfl) ?_
  refine lv_iload hx hb dL_law_1104 (lv_at hl 0 rfl) ?_
  refine lv_iconst (v := 1) hx hb dL_law_1106 (by decide) ?_
  refine lv_iadd hx hb dL_law_1107 ?_
  refine lv_topi (fun v1 ev1 => ?_)
  replace ev1 : v1 = nI (i + 1) := ev1.trans (nI_add _ 1)
  subst ev1
  refine va_sld hx hb hX hbl hbA hS (vp_in_nI (by omega) (by omega)) dL_law_1108 ?_
  refine lv_topi (fun a2 ea2 => ?_)
  refine lv_aload_n hx hb dL_law_1109 rfl (lv_at hl 5 rfl) ?_
  refine lv_iload hx hb dL_law_1110 (lv_at hl 0 rfl) ?_
  refine lv_iconst (v := 2) hx hb dL_law_1112 (by decide) ?_
  refine lv_iadd hx hb dL_law_1113 ?_
  refine lv_topi (fun v3 ev3 => ?_)
  replace ev3 : v3 = nI (i + 2) := ev3.trans (nI_add _ 2)
  subst ev3
  refine va_sld hx hb hX hbl hbA hS (vp_in_nI (by omega) (by omega)) dL_law_1114 ?_
  refine lv_topi (fun a4 ea4 => ?_)
  refine lv_aload_n hx hb dL_law_1115 rfl (lv_at hl 2 rfl) ?_
  refine hm_callSW (rest := []) (k := 7) q4_98 q4_99 q1_0 q4_100 nm_L_pin rfl hx hb hml hown hts hK hO hS hH hl.1 (l_pin Γ l x0 mf E cn us so sh sm np mon ng gs nt ts lim rf sp rr o g0 a2 a4 f hst hC hnp hng hnt hr1 hrr hgs  ho) ⟨by omega, by omega⟩ ⟨by omega, by omega⟩ rfl (Nat.le_of_ble_eq_true rfl) dL_law_1116 (fun v1_ f1_ H locs hp_ hH hS => ?_)
  obtain ⟨k_, rfl⟩ := wP.val hp_
  refine W.eq (g2 := F0 m 1119 ls [.int k_]) rfl ?_
  have hM1 := hM.kpO ho hp_.2
  obtain ⟨⟨dz, gd, hih, mih, fh, hm1⟩, -⟩ := id hM1
  refine lv_istore (lv' := [(6, .int k_), (5, .int (nI i)), (4, .ref oD), (3, .ref o), (2, .ref m0), (1, .ref x0), (0, .ref b)]) hx hb dL_law_1119 hl (by decide) rfl (fun ls hl => ?_)
  refine lv_aload_n hx hb dL_law_1121 rfl (lv_at hl 4 rfl) ?_
  refine lv_aload_n hx hb dL_law_1122 rfl (lv_at hl 6 rfl) ?_
  refine lv_iload hx hb dL_law_1123 (lv_at hl 1 rfl) ?_
  refine lv_iconst (v := 1) hx hb dL_law_1125 (by decide) ?_
  refine lv_iadd hx hb dL_law_1126 ?_
  refine lv_topi (fun v5 ev5 => ?_)
  replace ev5 : v5 = nI (i + 1) := ev5.trans (nI_add _ 1)
  subst ev5
  refine va_sld hx hb hX hbl hbA hS (vp_in_nI (by omega) (by omega)) dL_law_1127 ?_
  refine lv_topi (fun a6 ea6 => ?_)
  replace ea6 : a6 = a2 := ea6.trans ea2.symm
  rw [ea6]
  refine lv_aload_n hx hb dL_law_1128 rfl (lv_at hl 6 rfl) ?_
  refine lv_iload hx hb dL_law_1129 (lv_at hl 1 rfl) ?_
  refine lv_iconst (v := 2) hx hb dL_law_1131 (by decide) ?_
  refine lv_iadd hx hb dL_law_1132 ?_
  refine lv_topi (fun v7 ev7 => ?_)
  replace ev7 : v7 = nI (i + 2) := ev7.trans (nI_add _ 2)
  subst ev7
  refine va_sld hx hb hX hbl hbA hS (vp_in_nI (by omega) (by omega)) dL_law_1133 ?_
  refine lv_topi (fun a8 ea8 => ?_)
  replace ea8 : a8 = a4 := ea8.trans ea4.symm
  rw [ea8]
  refine hm_callV (rest := []) (k := 4) q6_25 q6_26 q1_9 q6_28 q6_27 rfl nm_X8_pin rfl hx hb hml hown hts hK hO hS hH hl.1 hm1 (w_X8_pin Γ l m0 r th K kp ck msh msm mso np mon ng gs nt ts lim rf sp rr a2 a4 f1_ hM1 hnp hng hnt hr1 hrr hkr hrI hgs ) ⟨by omega, by omega⟩ ⟨by omega, by omega⟩ rfl (Nat.le_of_ble_eq_true rfl) dL_law_1134 (fun v2_ f2_ H locs hq_ hH hS => ?_)
  obtain ⟨b_, rfl⟩ := mP.val hq_
  refine W.eq (g2 := F0 m 1137 ls [.int b_]) rfl ?_
  obtain ⟨k2, b2, e1_, e2_, hR⟩ := j_pin h34 hn hI hM hrI ho hoD hp_ hq_
  cases e1_
  cases e2_
  obtain ⟨⟨y1, y2, y3, y4, y5, y6, y7, y8, y9, y10, y11, y12, y13, y14, y15, y16, y17, hmt⟩, ⟨g2, ho2, hg2⟩, hJ2⟩ := hR
  refine lv_istore (lv' := [(7, .int b_), (6, .int k_), (5, .int (nI i)), (4, .ref oD), (3, .ref o), (2, .ref m0), (1, .ref x0), (0, .ref b)]) hx hb dL_law_1137 hl (by decide) rfl (fun ls hl => ?_)
  refine lv_aload_n hx hb dL_law_1139 rfl (lv_at hl 5 rfl) ?_
  refine hm_callV (rest := []) (k := 1) q5_111 q5_112 q1_9 q5_114 q5_113 rfl nm_X8_thrown rfl hx hb hml hown hts hK hO hS hH hl.1 hmt (c_X8_thrown Γ l m0 r _ _ _ _ _ _ _ _ _ _ _ _ _ _ _ _ _ _ f2_ hmt) ⟨by omega, by omega⟩ ⟨by omega, by omega⟩ rfl (Nat.le_of_ble_eq_true rfl) dL_law_1140 (fun v_ f_ H locs hp2_ hH hS => ?_)
  obtain ⟨rfl, ef_⟩ := hp2_
  rw [ef_] at hH
  clear ef_
  refine W.eq (g2 := F0 m 1143 ls [.int k_]) rfl ?_
  refine lv_iload hx hb dL_law_1143 (lv_at hl 1 rfl) ?_
  refine lv_icmp_eq (tgt := 1150) hx hb dL_law_1145 (by decide) (fun _ => ?_) (fun c9 => absurd (rfl) c9)
  refine lv_iload hx hb dL_law_1150 (lv_at hl 1 rfl) ?_
  refine lv_if_ne (tgt := 1167) hx hb dL_law_1152 (by decide) (fun c10 => ?_) (fun c10 => ?_)
  · refine lv_goto (tgt := 1753) hx hb dL_law_1167 (by decide) ?_
    refine W.widen (k := cells + 16) (n := slots + 700) (by omega) (by omega) ?_
    exact K_ f2_ H locs hJ2 hH hS ls (lv_sub hl [2, 3, 4, 5, 6, 7] rfl)
  · refine lv_aload_n hx hb dL_law_1155 rfl (lv_at hl 4 rfl) ?_
    refine lv_iconst (v := 0) hx hb dL_law_1156 (by decide) ?_
    refine hm_lald hx hb hK hH ho2 (by unfold vp_in; decide) dL_law_1157 ?_
    refine lv_topl (fun v11 ev11 => ?_)
    replace ev11 : v11 = ((b_).toInt64) := ev11.trans (by show g2 0 = _; exact hg2 c10)
    subst ev11
    refine lv_iload hx hb dL_law_1158 (lv_at hl 0 rfl) ?_
    refine lv_i2l hx hb dL_law_1160 rfl ?_
    refine lv_topl (fun v12 ev12 => ?_)
    replace ev12 : v12 = ((b_).toInt64) := ev12.trans (rfl)
    subst ev12
    refine W.lcmp hx hb dL_law_1161 ?_
    refine lv_if_eq (tgt := 1167) hx hb dL_law_1162 (by decide) (fun _ => ?_) (fun c14 => absurd (m_cmp.mpr rfl) c14)
    refine lv_goto (tgt := 1753) hx hb dL_law_1167 (by decide) ?_
    refine W.widen (k := cells + 16) (n := slots + 700) (by omega) (by omega) ?_
    exact K_ f2_ H locs hJ2 hH hS ls (lv_sub hl [2, 3, 4, 5, 6, 7] rfl)
set_option maxHeartbeats 4000000 in
set_option maxRecDepth 100000 in
theorem cs_unpin {p : Program} {l : Launch} {e : Env} {R : Room} {s : State} {m : MethodId} {args : Array Value} {below : List Frame} {meth : Method} {c : Code} {Q : State → Prop} (Γ : Gm) (hx : p.tables.exec = Jvm.exec) (hb : c.code = cL_law) (hml : c.maxLocals = 9) (hown : s.vm.findClass "TileWardenLaw" = some m.cls) (hts : ∀ w ∈ lwG, w.before args s = true) (hK : KK Γ s) (hO : hm_O Γ s.heap) (hst : l.stackTraces = false) {b L : Nat} {xs : Nat → Int32} (hX : va_X b L xs s s.heap) (hbl : b < s.heap.size) (hbA : ¬ gA Γ b) (hRf : 400 ≤ R.frames ∧ 10000 ≤ R.locals) {x0 m0 o oD n i : Nat} {r : Nat → Nat} {f : Hm} {H : Heap} {locs : List Loc} {cells slots : Nat} (hcf : cells + 16 ≤ R.cells ∧ slots + 700 ≤ R.slots) (hJ : JS Γ f x0 m0 o oD r n) (hn : n ≤ 511) (hi : i + 4 ≤ L) (hL : L ≤ 2048) (hH : hm_H Γ f H) (hS : va_S (gA Γ) s.heap H locs) (ls : Array Slot) (hl : lv_has ls 9 [(5, .int (nI i)), (4, .ref oD), (3, .ref o), (2, .ref m0), (1, .ref x0), (0, .ref b)])
    (K_ : ∀ (f' : Hm) (H' : Heap) (locs' : List Loc), JS Γ f' x0 m0 o oD r (n + 1) → hm_H Γ f' H' → va_S (gA Γ) s.heap H' locs' → ∀ ls' : Array Slot, lv_has ls' 9 [(5, .int (nI i)), (4, .ref oD), (3, .ref o), (2, .ref m0), (1, .ref x0), (0, .ref b)] → W p l e R s m args below meth c H' locs' (cells + 16) (slots + 700) Q (F0 m 1753 ls' [])) : W p l e R s m args below meth c H locs cells slots Q (F0 m 1170 ls []) := by
  obtain ⟨th, K, kp, ck, msh, msm, mso, mf, E, cn, us, so, sh, sm, np, mon, ng, gs, nt, ts, lim, rf, sp, rr, hC, hM, hI, hrI, ⟨g0, ho⟩, ⟨gD, hoD⟩⟩ := hJ
  have h34 := hm_c34 hK
  have hgs := hI.gok (by omega)
  obtain ⟨⟨hnp, hng, hnt, hr1, hrr, hkr⟩, hIg, hdf0, hIt, hIs, ⟨⟨σ, hσ⟩, hIc, hcn, hok, hmk⟩, hrf, hmon⟩ := id hI
  have hkp : kp ≤ 64 := by omega
  have hL4 : i + 3 < L := by omega
  refine lv_aload_n hx hb dL_law_1170 rfl (lv_at hl 4 rfl) ?_
  refine lv_aload_n hx hb dL_law_1171 rfl (lv_at hl 5 rfl) ?_
  refine lv_iload hx hb dL_law_1172 (lv_at hl 0 rfl) ?_
  refine lv_iconst (v := 1) hx hb dL_law_1174 (by decide) ?_
  refine lv_iadd hx hb dL_law_1175 ?_
  refine lv_topi (fun v1 ev1 => ?_)
  replace ev1 : v1 = nI (i + 1) := ev1.trans (nI_add _ 1)
  subst ev1
  refine va_sld hx hb hX hbl hbA hS (vp_in_nI (by omega) (by omega)) dL_law_1176 ?_
  refine lv_topi (fun a2 ea2 => ?_)
  refine lv_aload_n hx hb dL_law_1177 rfl (lv_at hl 2 rfl) ?_
  refine hm_callSW (rest := []) (k := 7) q4_111 q4_112 q1_0 q4_113 nm_L_unpin rfl hx hb hml hown hts hK hO hS hH hl.1 (l_unpin Γ l x0 mf E cn us so sh sm np mon ng gs nt ts lim rf sp rr o g0 a2 f hst hC hnp hng hnt hr1 hrr hgs  ho) ⟨by omega, by omega⟩ ⟨by omega, by omega⟩ rfl (Nat.le_of_ble_eq_true rfl) dL_law_1178 (fun v1_ f1_ H locs hp_ hH hS => ?_)
  obtain ⟨k_, rfl⟩ := wP.val hp_
  refine W.eq (g2 := F0 m 1181 ls [.int k_]) rfl ?_
  have hM1 := hM.kpO ho hp_.2
  obtain ⟨⟨dz, gd, hih, mih, fh, hm1⟩, -⟩ := id hM1
  refine lv_istore (lv' := [(6, .int k_), (5, .int (nI i)), (4, .ref oD), (3, .ref o), (2, .ref m0), (1, .ref x0), (0, .ref b)]) hx hb dL_law_1181 hl (by decide) rfl (fun ls hl => ?_)
  refine lv_aload_n hx hb dL_law_1183 rfl (lv_at hl 4 rfl) ?_
  refine lv_aload_n hx hb dL_law_1184 rfl (lv_at hl 6 rfl) ?_
  refine lv_iload hx hb dL_law_1185 (lv_at hl 1 rfl) ?_
  refine lv_iconst (v := 1) hx hb dL_law_1187 (by decide) ?_
  refine lv_iadd hx hb dL_law_1188 ?_
  refine lv_topi (fun v3 ev3 => ?_)
  replace ev3 : v3 = nI (i + 1) := ev3.trans (nI_add _ 1)
  subst ev3
  refine va_sld hx hb hX hbl hbA hS (vp_in_nI (by omega) (by omega)) dL_law_1189 ?_
  refine lv_topi (fun a4 ea4 => ?_)
  replace ea4 : a4 = a2 := ea4.trans ea2.symm
  rw [ea4]
  refine hm_callV (rest := []) (k := 3) q6_33 q6_34 q1_9 q6_36 q6_35 rfl nm_X8_unpin rfl hx hb hml hown hts hK hO hS hH hl.1 hm1 (w_X8_unpin Γ l m0 r th K kp ck msh msm mso np mon ng gs nt ts lim rf sp rr a2 f1_ hM1 hnp hng hnt hr1 hrr hkr hrI hgs ) ⟨by omega, by omega⟩ ⟨by omega, by omega⟩ rfl (Nat.le_of_ble_eq_true rfl) dL_law_1190 (fun v2_ f2_ H locs hq_ hH hS => ?_)
  obtain ⟨b_, rfl⟩ := mP.val hq_
  refine W.eq (g2 := F0 m 1193 ls [.int b_]) rfl ?_
  obtain ⟨k2, b2, e1_, e2_, hR⟩ := j_unpin h34 hn hI hM hrI ho hoD hp_ hq_
  cases e1_
  cases e2_
  obtain ⟨⟨y1, y2, y3, y4, y5, y6, y7, y8, y9, y10, y11, y12, y13, y14, y15, y16, y17, hmt⟩, ⟨g2, ho2, hg2⟩, hJ2⟩ := hR
  refine lv_istore (lv' := [(7, .int b_), (6, .int k_), (5, .int (nI i)), (4, .ref oD), (3, .ref o), (2, .ref m0), (1, .ref x0), (0, .ref b)]) hx hb dL_law_1193 hl (by decide) rfl (fun ls hl => ?_)
  refine lv_aload_n hx hb dL_law_1195 rfl (lv_at hl 5 rfl) ?_
  refine hm_callV (rest := []) (k := 1) q5_111 q5_112 q1_9 q5_114 q5_113 rfl nm_X8_thrown rfl hx hb hml hown hts hK hO hS hH hl.1 hmt (c_X8_thrown Γ l m0 r _ _ _ _ _ _ _ _ _ _ _ _ _ _ _ _ _ _ f2_ hmt) ⟨by omega, by omega⟩ ⟨by omega, by omega⟩ rfl (Nat.le_of_ble_eq_true rfl) dL_law_1196 (fun v_ f_ H locs hp2_ hH hS => ?_)
  obtain ⟨rfl, ef_⟩ := hp2_
  rw [ef_] at hH
  clear ef_
  refine W.eq (g2 := F0 m 1199 ls [.int k_]) rfl ?_
  refine lv_iload hx hb dL_law_1199 (lv_at hl 1 rfl) ?_
  refine lv_icmp_eq (tgt := 1206) hx hb dL_law_1201 (by decide) (fun _ => ?_) (fun c5 => absurd (rfl) c5)
  refine lv_iload hx hb dL_law_1206 (lv_at hl 1 rfl) ?_
  refine lv_if_ne (tgt := 1223) hx hb dL_law_1208 (by decide) (fun c6 => ?_) (fun c6 => ?_)
  · refine lv_goto (tgt := 1753) hx hb dL_law_1223 (by decide) ?_
    refine W.widen (k := cells + 16) (n := slots + 700) (by omega) (by omega) ?_
    exact K_ f2_ H locs hJ2 hH hS ls (lv_sub hl [2, 3, 4, 5, 6, 7] rfl)
  · refine lv_aload_n hx hb dL_law_1211 rfl (lv_at hl 4 rfl) ?_
    refine lv_iconst (v := 0) hx hb dL_law_1212 (by decide) ?_
    refine hm_lald hx hb hK hH ho2 (by unfold vp_in; decide) dL_law_1213 ?_
    refine lv_topl (fun v7 ev7 => ?_)
    replace ev7 : v7 = ((b_).toInt64) := ev7.trans (by show g2 0 = _; exact hg2 c6)
    subst ev7
    refine lv_iload hx hb dL_law_1214 (lv_at hl 0 rfl) ?_
    refine lv_i2l hx hb dL_law_1216 rfl ?_
    refine lv_topl (fun v8 ev8 => ?_)
    replace ev8 : v8 = ((b_).toInt64) := ev8.trans (rfl)
    subst ev8
    refine W.lcmp hx hb dL_law_1217 ?_
    refine lv_if_eq (tgt := 1223) hx hb dL_law_1218 (by decide) (fun _ => ?_) (fun c10 => absurd (m_cmp.mpr rfl) c10)
    refine lv_goto (tgt := 1753) hx hb dL_law_1223 (by decide) ?_
    refine W.widen (k := cells + 16) (n := slots + 700) (by omega) (by omega) ?_
    exact K_ f2_ H locs hJ2 hH hS ls (lv_sub hl [2, 3, 4, 5, 6, 7] rfl)
set_option maxHeartbeats 4000000 in
set_option maxRecDepth 100000 in
theorem cs_follows {p : Program} {l : Launch} {e : Env} {R : Room} {s : State} {m : MethodId} {args : Array Value} {below : List Frame} {meth : Method} {c : Code} {Q : State → Prop} (Γ : Gm) (hx : p.tables.exec = Jvm.exec) (hb : c.code = cL_law) (hml : c.maxLocals = 9) (hown : s.vm.findClass "TileWardenLaw" = some m.cls) (hts : ∀ w ∈ lwG, w.before args s = true) (hK : KK Γ s) (hO : hm_O Γ s.heap) (hst : l.stackTraces = false) {b L : Nat} {xs : Nat → Int32} (hX : va_X b L xs s s.heap) (hbl : b < s.heap.size) (hbA : ¬ gA Γ b) (hRf : 400 ≤ R.frames ∧ 10000 ≤ R.locals) {x0 m0 o oD n i : Nat} {r : Nat → Nat} {f : Hm} {H : Heap} {locs : List Loc} {cells slots : Nat} (hcf : cells + 16 ≤ R.cells ∧ slots + 700 ≤ R.slots) (hJ : JS Γ f x0 m0 o oD r n) (hn : n ≤ 511) (hi : i + 4 ≤ L) (hL : L ≤ 2048) (hH : hm_H Γ f H) (hS : va_S (gA Γ) s.heap H locs) (ls : Array Slot) (hl : lv_has ls 9 [(5, .int (nI i)), (4, .ref oD), (3, .ref o), (2, .ref m0), (1, .ref x0), (0, .ref b)])
    (K_ : ∀ (f' : Hm) (H' : Heap) (locs' : List Loc), JS Γ f' x0 m0 o oD r (n + 1) → hm_H Γ f' H' → va_S (gA Γ) s.heap H' locs' → ∀ ls' : Array Slot, lv_has ls' 9 [(5, .int (nI i)), (4, .ref oD), (3, .ref o), (2, .ref m0), (1, .ref x0), (0, .ref b)] → W p l e R s m args below meth c H' locs' (cells + 16) (slots + 700) Q (F0 m 1753 ls' [])) : W p l e R s m args below meth c H locs cells slots Q (F0 m 1239 ls []) := by
  obtain ⟨th, K, kp, ck, msh, msm, mso, mf, E, cn, us, so, sh, sm, np, mon, ng, gs, nt, ts, lim, rf, sp, rr, hC, hM, hI, hrI, ⟨g0, ho⟩, ⟨gD, hoD⟩⟩ := hJ
  have h34 := hm_c34 hK
  have hgs := hI.gok (by omega)
  obtain ⟨⟨hnp, hng, hnt, hr1, hrr, hkr⟩, hIg, hdf0, hIt, hIs, ⟨⟨σ, hσ⟩, hIc, hcn, hok, hmk⟩, hrf, hmon⟩ := id hI
  have hkp : kp ≤ 64 := by omega
  have hL4 : i + 3 < L := by omega
  refine lv_aload_n hx hb dL_law_1239 rfl (lv_at hl 4 rfl) ?_
  refine lv_aload_n hx hb dL_law_1240 rfl (lv_at hl 5 rfl) ?_
  refine lv_iload hx hb dL_law_1241 (lv_at hl 0 rfl) ?_
  refine lv_iconst (v := 1) hx hb dL_law_1243 (by decide) ?_
  refine lv_iadd hx hb dL_law_1244 ?_
  refine lv_topi (fun v1 ev1 => ?_)
  replace ev1 : v1 = nI (i + 1) := ev1.trans (nI_add _ 1)
  subst ev1
  refine va_sld hx hb hX hbl hbA hS (vp_in_nI (by omega) (by omega)) dL_law_1245 ?_
  refine lv_topi (fun a2 ea2 => ?_)
  refine lv_aload_n hx hb dL_law_1246 rfl (lv_at hl 2 rfl) ?_
  refine hm_callSW (rest := []) (k := 7) q4_122 q4_123 q1_0 q4_124 nm_L_follows rfl hx hb hml hown hts hK hO hS hH hl.1 (l_follows Γ l x0 mf E cn us so sh sm np mon ng gs nt ts lim rf sp rr o g0 a2 f hst hC hnp hng hnt hr1 hrr hgs  ho) ⟨by omega, by omega⟩ ⟨by omega, by omega⟩ rfl (Nat.le_of_ble_eq_true rfl) dL_law_1247 (fun v1_ f1_ H locs hp_ hH hS => ?_)
  obtain ⟨k_, rfl⟩ := wP.val hp_
  refine W.eq (g2 := F0 m 1250 ls [.int k_]) rfl ?_
  have hM1 := hM.kpO ho hp_.2
  obtain ⟨⟨dz, gd, hih, mih, fh, hm1⟩, -⟩ := id hM1
  refine lv_istore (lv' := [(6, .int k_), (5, .int (nI i)), (4, .ref oD), (3, .ref o), (2, .ref m0), (1, .ref x0), (0, .ref b)]) hx hb dL_law_1250 hl (by decide) rfl (fun ls hl => ?_)
  refine lv_aload_n hx hb dL_law_1252 rfl (lv_at hl 4 rfl) ?_
  refine lv_aload_n hx hb dL_law_1253 rfl (lv_at hl 6 rfl) ?_
  refine lv_iload hx hb dL_law_1254 (lv_at hl 1 rfl) ?_
  refine lv_iconst (v := 1) hx hb dL_law_1256 (by decide) ?_
  refine lv_iadd hx hb dL_law_1257 ?_
  refine lv_topi (fun v3 ev3 => ?_)
  replace ev3 : v3 = nI (i + 1) := ev3.trans (nI_add _ 1)
  subst ev3
  refine va_sld hx hb hX hbl hbA hS (vp_in_nI (by omega) (by omega)) dL_law_1258 ?_
  refine lv_topi (fun a4 ea4 => ?_)
  replace ea4 : a4 = a2 := ea4.trans ea2.symm
  rw [ea4]
  refine hm_callV (rest := []) (k := 3) q6_45 q6_46 q1_9 q6_48 q6_47 rfl nm_X8_follows rfl hx hb hml hown hts hK hO hS hH hl.1 hm1 (w_X8_follows Γ l m0 r th K kp ck msh msm mso np mon ng gs nt ts lim rf sp rr a2 f1_ hM1 hnp hng hnt hr1 hrr hkr hrI hgs ) ⟨by omega, by omega⟩ ⟨by omega, by omega⟩ rfl (Nat.le_of_ble_eq_true rfl) dL_law_1259 (fun v2_ f2_ H locs hq_ hH hS => ?_)
  obtain ⟨b_, rfl⟩ := mP.val hq_
  refine W.eq (g2 := F0 m 1262 ls [.int b_]) rfl ?_
  obtain ⟨k2, b2, e1_, e2_, hR⟩ := j_follows h34 hn hI hM hrI ho hoD hp_ hq_
  cases e1_
  cases e2_
  obtain ⟨⟨y1, y2, y3, y4, y5, y6, y7, y8, y9, y10, y11, y12, y13, y14, y15, y16, y17, hmt⟩, ⟨g2, ho2, hg2⟩, hJ2⟩ := hR
  refine lv_istore (lv' := [(7, .int b_), (6, .int k_), (5, .int (nI i)), (4, .ref oD), (3, .ref o), (2, .ref m0), (1, .ref x0), (0, .ref b)]) hx hb dL_law_1262 hl (by decide) rfl (fun ls hl => ?_)
  refine lv_aload_n hx hb dL_law_1264 rfl (lv_at hl 5 rfl) ?_
  refine hm_callV (rest := []) (k := 1) q5_111 q5_112 q1_9 q5_114 q5_113 rfl nm_X8_thrown rfl hx hb hml hown hts hK hO hS hH hl.1 hmt (c_X8_thrown Γ l m0 r _ _ _ _ _ _ _ _ _ _ _ _ _ _ _ _ _ _ f2_ hmt) ⟨by omega, by omega⟩ ⟨by omega, by omega⟩ rfl (Nat.le_of_ble_eq_true rfl) dL_law_1265 (fun v_ f_ H locs hp2_ hH hS => ?_)
  obtain ⟨rfl, ef_⟩ := hp2_
  rw [ef_] at hH
  clear ef_
  refine W.eq (g2 := F0 m 1268 ls [.int k_]) rfl ?_
  refine lv_iload hx hb dL_law_1268 (lv_at hl 1 rfl) ?_
  refine lv_icmp_eq (tgt := 1275) hx hb dL_law_1270 (by decide) (fun _ => ?_) (fun c5 => absurd (rfl) c5)
  refine lv_iload hx hb dL_law_1275 (lv_at hl 1 rfl) ?_
  refine lv_if_ne (tgt := 1292) hx hb dL_law_1277 (by decide) (fun c6 => ?_) (fun c6 => ?_)
  · refine lv_goto (tgt := 1753) hx hb dL_law_1292 (by decide) ?_
    refine W.widen (k := cells + 16) (n := slots + 700) (by omega) (by omega) ?_
    exact K_ f2_ H locs hJ2 hH hS ls (lv_sub hl [2, 3, 4, 5, 6, 7] rfl)
  · refine lv_aload_n hx hb dL_law_1280 rfl (lv_at hl 4 rfl) ?_
    refine lv_iconst (v := 0) hx hb dL_law_1281 (by decide) ?_
    refine hm_lald hx hb hK hH ho2 (by unfold vp_in; decide) dL_law_1282 ?_
    refine lv_topl (fun v7 ev7 => ?_)
    replace ev7 : v7 = ((b_).toInt64) := ev7.trans (by show g2 0 = _; exact hg2 c6)
    subst ev7
    refine lv_iload hx hb dL_law_1283 (lv_at hl 0 rfl) ?_
    refine lv_i2l hx hb dL_law_1285 rfl ?_
    refine lv_topl (fun v8 ev8 => ?_)
    replace ev8 : v8 = ((b_).toInt64) := ev8.trans (rfl)
    subst ev8
    refine W.lcmp hx hb dL_law_1286 ?_
    refine lv_if_eq (tgt := 1292) hx hb dL_law_1287 (by decide) (fun _ => ?_) (fun c10 => absurd (m_cmp.mpr rfl) c10)
    refine lv_goto (tgt := 1753) hx hb dL_law_1292 (by decide) ?_
    refine W.widen (k := cells + 16) (n := slots + 700) (by omega) (by omega) ?_
    exact K_ f2_ H locs hJ2 hH hS ls (lv_sub hl [2, 3, 4, 5, 6, 7] rfl)
set_option maxHeartbeats 4000000 in
set_option maxRecDepth 100000 in
theorem cs_setLimit {p : Program} {l : Launch} {e : Env} {R : Room} {s : State} {m : MethodId} {args : Array Value} {below : List Frame} {meth : Method} {c : Code} {Q : State → Prop} (Γ : Gm) (hx : p.tables.exec = Jvm.exec) (hb : c.code = cL_law) (hml : c.maxLocals = 9) (hown : s.vm.findClass "TileWardenLaw" = some m.cls) (hts : ∀ w ∈ lwG, w.before args s = true) (hK : KK Γ s) (hO : hm_O Γ s.heap) (hst : l.stackTraces = false) {b L : Nat} {xs : Nat → Int32} (hX : va_X b L xs s s.heap) (hbl : b < s.heap.size) (hbA : ¬ gA Γ b) (hRf : 400 ≤ R.frames ∧ 10000 ≤ R.locals) {x0 m0 o oD n i : Nat} {r : Nat → Nat} {f : Hm} {H : Heap} {locs : List Loc} {cells slots : Nat} (hcf : cells + 16 ≤ R.cells ∧ slots + 700 ≤ R.slots) (hJ : JS Γ f x0 m0 o oD r n) (hn : n ≤ 511) (hi : i + 4 ≤ L) (hL : L ≤ 2048) (hH : hm_H Γ f H) (hS : va_S (gA Γ) s.heap H locs) (ls : Array Slot) (hl : lv_has ls 9 [(5, .int (nI i)), (4, .ref oD), (3, .ref o), (2, .ref m0), (1, .ref x0), (0, .ref b)])
    (K_ : ∀ (f' : Hm) (H' : Heap) (locs' : List Loc), JS Γ f' x0 m0 o oD r (n + 1) → hm_H Γ f' H' → va_S (gA Γ) s.heap H' locs' → ∀ ls' : Array Slot, lv_has ls' 9 [(5, .int (nI i)), (4, .ref oD), (3, .ref o), (2, .ref m0), (1, .ref x0), (0, .ref b)] → W p l e R s m args below meth c H' locs' (cells + 16) (slots + 700) Q (F0 m 1753 ls' [])) : W p l e R s m args below meth c H locs cells slots Q (F0 m 1295 ls []) := by
  obtain ⟨th, K, kp, ck, msh, msm, mso, mf, E, cn, us, so, sh, sm, np, mon, ng, gs, nt, ts, lim, rf, sp, rr, hC, hM, hI, hrI, ⟨g0, ho⟩, ⟨gD, hoD⟩⟩ := hJ
  have h34 := hm_c34 hK
  have hgs := hI.gok (by omega)
  obtain ⟨⟨hnp, hng, hnt, hr1, hrr, hkr⟩, hIg, hdf0, hIt, hIs, ⟨⟨σ, hσ⟩, hIc, hcn, hok, hmk⟩, hrf, hmon⟩ := id hI
  have hkp : kp ≤ 64 := by omega
  have hL4 : i + 3 < L := by omega
  refine lv_aload_n hx hb dL_law_1295 rfl (lv_at hl 4 rfl) ?_
  refine lv_aload_n hx hb dL_law_1296 rfl (lv_at hl 5 rfl) ?_
  refine lv_iload hx hb dL_law_1297 (lv_at hl 0 rfl) ?_
  refine lv_iconst (v := 1) hx hb dL_law_1299 (by decide) ?_
  refine lv_iadd hx hb dL_law_1300 ?_
  refine lv_topi (fun v1 ev1 => ?_)
  replace ev1 : v1 = nI (i + 1) := ev1.trans (nI_add _ 1)
  subst ev1
  refine va_sld hx hb hX hbl hbA hS (vp_in_nI (by omega) (by omega)) dL_law_1301 ?_
  refine lv_topi (fun a2 ea2 => ?_)
  refine lv_aload_n hx hb dL_law_1302 rfl (lv_at hl 2 rfl) ?_
  refine hm_callSW (rest := []) (k := 3) q4_129 q4_130 q1_0 q4_131 nm_L_setLimit rfl hx hb hml hown hts hK hO hS hH hl.1 (l_setLimit Γ l x0 mf E cn us so sh sm np mon ng gs nt ts lim rf sp rr o g0 a2 f hst hC hnp hng hnt hr1 hrr hgs  ho) ⟨by omega, by omega⟩ ⟨by omega, by omega⟩ rfl (Nat.le_of_ble_eq_true rfl) dL_law_1303 (fun v1_ f1_ H locs hp_ hH hS => ?_)
  obtain ⟨k_, rfl⟩ := wP.val hp_
  refine W.eq (g2 := F0 m 1306 ls [.int k_]) rfl ?_
  have hM1 := hM.kpO ho hp_.2
  obtain ⟨⟨dz, gd, hih, mih, fh, hm1⟩, -⟩ := id hM1
  refine lv_istore (lv' := [(6, .int k_), (5, .int (nI i)), (4, .ref oD), (3, .ref o), (2, .ref m0), (1, .ref x0), (0, .ref b)]) hx hb dL_law_1306 hl (by decide) rfl (fun ls hl => ?_)
  refine lv_aload_n hx hb dL_law_1308 rfl (lv_at hl 4 rfl) ?_
  refine lv_aload_n hx hb dL_law_1309 rfl (lv_at hl 6 rfl) ?_
  refine lv_iload hx hb dL_law_1310 (lv_at hl 1 rfl) ?_
  refine lv_iconst (v := 1) hx hb dL_law_1312 (by decide) ?_
  refine lv_iadd hx hb dL_law_1313 ?_
  refine lv_topi (fun v3 ev3 => ?_)
  replace ev3 : v3 = nI (i + 1) := ev3.trans (nI_add _ 1)
  subst ev3
  refine va_sld hx hb hX hbl hbA hS (vp_in_nI (by omega) (by omega)) dL_law_1314 ?_
  refine lv_topi (fun a4 ea4 => ?_)
  replace ea4 : a4 = a2 := ea4.trans ea2.symm
  rw [ea4]
  refine hm_callV (rest := []) (k := 2) q6_49 q6_50 q1_9 q6_52 q6_51 rfl nm_X8_setLimit rfl hx hb hml hown hts hK hO hS hH hl.1 hm1 (w_X8_setLimit Γ l m0 r th K kp ck msh msm mso np mon ng gs nt ts lim rf sp rr a2 f1_ hM1 hnp hng hnt hr1 hrr hkr hrI hgs ) ⟨by omega, by omega⟩ ⟨by omega, by omega⟩ rfl (Nat.le_of_ble_eq_true rfl) dL_law_1315 (fun v2_ f2_ H locs hq_ hH hS => ?_)
  obtain ⟨b_, rfl⟩ := mP.val hq_
  refine W.eq (g2 := F0 m 1318 ls [.int b_]) rfl ?_
  obtain ⟨k2, b2, e1_, e2_, hR⟩ := j_setLimit h34 hn hI hM hrI ho hoD hp_ hq_
  cases e1_
  cases e2_
  obtain ⟨⟨y1, y2, y3, y4, y5, y6, y7, y8, y9, y10, y11, y12, y13, y14, y15, y16, y17, hmt⟩, ⟨g2, ho2, hg2⟩, hJ2⟩ := hR
  refine lv_istore (lv' := [(7, .int b_), (6, .int k_), (5, .int (nI i)), (4, .ref oD), (3, .ref o), (2, .ref m0), (1, .ref x0), (0, .ref b)]) hx hb dL_law_1318 hl (by decide) rfl (fun ls hl => ?_)
  refine lv_aload_n hx hb dL_law_1320 rfl (lv_at hl 5 rfl) ?_
  refine hm_callV (rest := []) (k := 1) q5_111 q5_112 q1_9 q5_114 q5_113 rfl nm_X8_thrown rfl hx hb hml hown hts hK hO hS hH hl.1 hmt (c_X8_thrown Γ l m0 r _ _ _ _ _ _ _ _ _ _ _ _ _ _ _ _ _ _ f2_ hmt) ⟨by omega, by omega⟩ ⟨by omega, by omega⟩ rfl (Nat.le_of_ble_eq_true rfl) dL_law_1321 (fun v_ f_ H locs hp2_ hH hS => ?_)
  obtain ⟨rfl, ef_⟩ := hp2_
  rw [ef_] at hH
  clear ef_
  refine W.eq (g2 := F0 m 1324 ls [.int k_]) rfl ?_
  refine lv_iload hx hb dL_law_1324 (lv_at hl 1 rfl) ?_
  refine lv_icmp_eq (tgt := 1331) hx hb dL_law_1326 (by decide) (fun _ => ?_) (fun c5 => absurd (rfl) c5)
  refine lv_iload hx hb dL_law_1331 (lv_at hl 1 rfl) ?_
  refine lv_if_ne (tgt := 1348) hx hb dL_law_1333 (by decide) (fun c6 => ?_) (fun c6 => ?_)
  · refine lv_goto (tgt := 1753) hx hb dL_law_1348 (by decide) ?_
    refine W.widen (k := cells + 16) (n := slots + 700) (by omega) (by omega) ?_
    exact K_ f2_ H locs hJ2 hH hS ls (lv_sub hl [2, 3, 4, 5, 6, 7] rfl)
  · refine lv_aload_n hx hb dL_law_1336 rfl (lv_at hl 4 rfl) ?_
    refine lv_iconst (v := 0) hx hb dL_law_1337 (by decide) ?_
    refine hm_lald hx hb hK hH ho2 (by unfold vp_in; decide) dL_law_1338 ?_
    refine lv_topl (fun v7 ev7 => ?_)
    replace ev7 : v7 = ((b_).toInt64) := ev7.trans (by show g2 0 = _; exact hg2 c6)
    subst ev7
    refine lv_iload hx hb dL_law_1339 (lv_at hl 0 rfl) ?_
    refine lv_i2l hx hb dL_law_1341 rfl ?_
    refine lv_topl (fun v8 ev8 => ?_)
    replace ev8 : v8 = ((b_).toInt64) := ev8.trans (rfl)
    subst ev8
    refine W.lcmp hx hb dL_law_1342 ?_
    refine lv_if_eq (tgt := 1348) hx hb dL_law_1343 (by decide) (fun _ => ?_) (fun c10 => absurd (m_cmp.mpr rfl) c10)
    refine lv_goto (tgt := 1753) hx hb dL_law_1348 (by decide) ?_
    refine W.widen (k := cells + 16) (n := slots + 700) (by omega) (by omega) ?_
    exact K_ f2_ H locs hJ2 hH hS ls (lv_sub hl [2, 3, 4, 5, 6, 7] rfl)
set_option maxHeartbeats 4000000 in
set_option maxRecDepth 100000 in
theorem cs_judge {p : Program} {l : Launch} {e : Env} {R : Room} {s : State} {m : MethodId} {args : Array Value} {below : List Frame} {meth : Method} {c : Code} {Q : State → Prop} (Γ : Gm) (hx : p.tables.exec = Jvm.exec) (hb : c.code = cL_law) (hml : c.maxLocals = 9) (hown : s.vm.findClass "TileWardenLaw" = some m.cls) (hts : ∀ w ∈ lwG, w.before args s = true) (hK : KK Γ s) (hO : hm_O Γ s.heap) (hst : l.stackTraces = false) {b L : Nat} {xs : Nat → Int32} (hX : va_X b L xs s s.heap) (hbl : b < s.heap.size) (hbA : ¬ gA Γ b) (hRf : 400 ≤ R.frames ∧ 10000 ≤ R.locals) {x0 m0 o oD n i : Nat} {r : Nat → Nat} {f : Hm} {H : Heap} {locs : List Loc} {cells slots : Nat} (hcf : cells + 16 ≤ R.cells ∧ slots + 700 ≤ R.slots) (hJ : JS Γ f x0 m0 o oD r n) (hn : n ≤ 511) (hi : i + 4 ≤ L) (hL : L ≤ 2048) (hH : hm_H Γ f H) (hS : va_S (gA Γ) s.heap H locs) (ls : Array Slot) (hl : lv_has ls 9 [(5, .int (nI i)), (4, .ref oD), (3, .ref o), (2, .ref m0), (1, .ref x0), (0, .ref b)])
    (K_ : ∀ (f' : Hm) (H' : Heap) (locs' : List Loc), JS Γ f' x0 m0 o oD r (n + 1) → hm_H Γ f' H' → va_S (gA Γ) s.heap H' locs' → ∀ ls' : Array Slot, lv_has ls' 9 [(5, .int (nI i)), (4, .ref oD), (3, .ref o), (2, .ref m0), (1, .ref x0), (0, .ref b)] → W p l e R s m args below meth c H' locs' (cells + 16) (slots + 700) Q (F0 m 1753 ls' [])) : W p l e R s m args below meth c H locs cells slots Q (F0 m 1351 ls []) := by
  obtain ⟨th, K, kp, ck, msh, msm, mso, mf, E, cn, us, so, sh, sm, np, mon, ng, gs, nt, ts, lim, rf, sp, rr, hC, hM, hI, hrI, ⟨g0, ho⟩, ⟨gD, hoD⟩⟩ := hJ
  have h34 := hm_c34 hK
  have hgs := hI.gok (by omega)
  obtain ⟨⟨hnp, hng, hnt, hr1, hrr, hkr⟩, hIg, hdf0, hIt, hIs, ⟨⟨σ, hσ⟩, hIc, hcn, hok, hmk⟩, hrf, hmon⟩ := id hI
  have hkp : kp ≤ 64 := by omega
  have hL4 : i + 3 < L := by omega
  refine lv_aload_n hx hb dL_law_1351 rfl (lv_at hl 4 rfl) ?_
  refine lv_aload_n hx hb dL_law_1352 rfl (lv_at hl 5 rfl) ?_
  refine lv_iload hx hb dL_law_1353 (lv_at hl 0 rfl) ?_
  refine lv_iconst (v := 1) hx hb dL_law_1355 (by decide) ?_
  refine lv_iadd hx hb dL_law_1356 ?_
  refine lv_topi (fun v1 ev1 => ?_)
  replace ev1 : v1 = nI (i + 1) := ev1.trans (nI_add _ 1)
  subst ev1
  refine va_sld hx hb hX hbl hbA hS (vp_in_nI (by omega) (by omega)) dL_law_1357 ?_
  refine lv_topi (fun a2 ea2 => ?_)
  refine lv_aload_n hx hb dL_law_1358 rfl (lv_at hl 2 rfl) ?_
  refine hm_callSW (rest := []) (k := 7) q4_137 q4_138 q1_0 q4_139 nm_L_judge rfl hx hb hml hown hts hK hO hS hH hl.1 (l_judge Γ l x0 mf E cn us so sh sm np mon ng gs nt ts lim rf sp rr o g0 a2 f hst hC hnp hng hnt hr1 hrr hgs  ho) ⟨by omega, by omega⟩ ⟨by omega, by omega⟩ rfl (Nat.le_of_ble_eq_true rfl) dL_law_1359 (fun v1_ f1_ H locs hp_ hH hS => ?_)
  obtain ⟨k_, rfl⟩ := wP.val hp_
  refine W.eq (g2 := F0 m 1362 ls [.int k_]) rfl ?_
  have hM1 := hM.kpO ho hp_.2
  obtain ⟨⟨dz, gd, hih, mih, fh, hm1⟩, -⟩ := id hM1
  refine lv_istore (lv' := [(6, .int k_), (5, .int (nI i)), (4, .ref oD), (3, .ref o), (2, .ref m0), (1, .ref x0), (0, .ref b)]) hx hb dL_law_1362 hl (by decide) rfl (fun ls hl => ?_)
  refine lv_aload_n hx hb dL_law_1364 rfl (lv_at hl 4 rfl) ?_
  refine lv_aload_n hx hb dL_law_1365 rfl (lv_at hl 6 rfl) ?_
  refine lv_iload hx hb dL_law_1366 (lv_at hl 1 rfl) ?_
  refine lv_iconst (v := 1) hx hb dL_law_1368 (by decide) ?_
  refine lv_iadd hx hb dL_law_1369 ?_
  refine lv_topi (fun v3 ev3 => ?_)
  replace ev3 : v3 = nI (i + 1) := ev3.trans (nI_add _ 1)
  subst ev3
  refine va_sld hx hb hX hbl hbA hS (vp_in_nI (by omega) (by omega)) dL_law_1370 ?_
  refine lv_topi (fun a4 ea4 => ?_)
  replace ea4 : a4 = a2 := ea4.trans ea2.symm
  rw [ea4]
  refine hm_callV (rest := []) (k := 3) q6_53 q6_54 q1_9 q6_56 q6_55 rfl nm_X8_judge rfl hx hb hml hown hts hK hO hS hH hl.1 hm1 (w_X8_judge Γ l m0 r th K kp ck msh msm mso np mon ng gs nt ts lim rf sp rr a2 f1_ hM1 hnp hng hnt hr1 hrr hkr hrI hgs ) ⟨by omega, by omega⟩ ⟨by omega, by omega⟩ rfl (Nat.le_of_ble_eq_true rfl) dL_law_1371 (fun v2_ f2_ H locs hq_ hH hS => ?_)
  obtain ⟨b_, rfl⟩ := mP.val hq_
  refine W.eq (g2 := F0 m 1374 ls [.int b_]) rfl ?_
  obtain ⟨k2, b2, e1_, e2_, hR⟩ := j_judge h34 hn hI hM hrI ho hoD hp_ hq_
  cases e1_
  cases e2_
  obtain ⟨⟨y1, y2, y3, y4, y5, y6, y7, y8, y9, y10, y11, y12, y13, y14, y15, y16, y17, hmt⟩, ⟨g2, ho2, hg2⟩, hJ2⟩ := hR
  refine lv_istore (lv' := [(7, .int b_), (6, .int k_), (5, .int (nI i)), (4, .ref oD), (3, .ref o), (2, .ref m0), (1, .ref x0), (0, .ref b)]) hx hb dL_law_1374 hl (by decide) rfl (fun ls hl => ?_)
  refine lv_aload_n hx hb dL_law_1376 rfl (lv_at hl 5 rfl) ?_
  refine hm_callV (rest := []) (k := 1) q5_111 q5_112 q1_9 q5_114 q5_113 rfl nm_X8_thrown rfl hx hb hml hown hts hK hO hS hH hl.1 hmt (c_X8_thrown Γ l m0 r _ _ _ _ _ _ _ _ _ _ _ _ _ _ _ _ _ _ f2_ hmt) ⟨by omega, by omega⟩ ⟨by omega, by omega⟩ rfl (Nat.le_of_ble_eq_true rfl) dL_law_1377 (fun v_ f_ H locs hp2_ hH hS => ?_)
  obtain ⟨rfl, ef_⟩ := hp2_
  rw [ef_] at hH
  clear ef_
  refine W.eq (g2 := F0 m 1380 ls [.int k_]) rfl ?_
  refine lv_iload hx hb dL_law_1380 (lv_at hl 1 rfl) ?_
  refine lv_icmp_eq (tgt := 1387) hx hb dL_law_1382 (by decide) (fun _ => ?_) (fun c5 => absurd (rfl) c5)
  refine lv_iload hx hb dL_law_1387 (lv_at hl 1 rfl) ?_
  refine lv_if_ne (tgt := 1404) hx hb dL_law_1389 (by decide) (fun c6 => ?_) (fun c6 => ?_)
  · refine lv_goto (tgt := 1753) hx hb dL_law_1404 (by decide) ?_
    refine W.widen (k := cells + 16) (n := slots + 700) (by omega) (by omega) ?_
    exact K_ f2_ H locs hJ2 hH hS ls (lv_sub hl [2, 3, 4, 5, 6, 7] rfl)
  · refine lv_aload_n hx hb dL_law_1392 rfl (lv_at hl 4 rfl) ?_
    refine lv_iconst (v := 0) hx hb dL_law_1393 (by decide) ?_
    refine hm_lald hx hb hK hH ho2 (by unfold vp_in; decide) dL_law_1394 ?_
    refine lv_topl (fun v7 ev7 => ?_)
    replace ev7 : v7 = ((b_).toInt64) := ev7.trans (by show g2 0 = _; exact hg2 c6)
    subst ev7
    refine lv_iload hx hb dL_law_1395 (lv_at hl 0 rfl) ?_
    refine lv_i2l hx hb dL_law_1397 rfl ?_
    refine lv_topl (fun v8 ev8 => ?_)
    replace ev8 : v8 = ((b_).toInt64) := ev8.trans (rfl)
    subst ev8
    refine W.lcmp hx hb dL_law_1398 ?_
    refine lv_if_eq (tgt := 1404) hx hb dL_law_1399 (by decide) (fun _ => ?_) (fun c10 => absurd (m_cmp.mpr rfl) c10)
    refine lv_goto (tgt := 1753) hx hb dL_law_1404 (by decide) ?_
    refine W.widen (k := cells + 16) (n := slots + 700) (by omega) (by omega) ?_
    exact K_ f2_ H locs hJ2 hH hS ls (lv_sub hl [2, 3, 4, 5, 6, 7] rfl)
set_option maxHeartbeats 4000000 in
set_option maxRecDepth 100000 in
theorem cs_isVoid {p : Program} {l : Launch} {e : Env} {R : Room} {s : State} {m : MethodId} {args : Array Value} {below : List Frame} {meth : Method} {c : Code} {Q : State → Prop} (Γ : Gm) (hx : p.tables.exec = Jvm.exec) (hb : c.code = cL_law) (hml : c.maxLocals = 9) (hown : s.vm.findClass "TileWardenLaw" = some m.cls) (hts : ∀ w ∈ lwG, w.before args s = true) (hK : KK Γ s) (hO : hm_O Γ s.heap) (hst : l.stackTraces = false) {b L : Nat} {xs : Nat → Int32} (hX : va_X b L xs s s.heap) (hbl : b < s.heap.size) (hbA : ¬ gA Γ b) (hRf : 400 ≤ R.frames ∧ 10000 ≤ R.locals) {x0 m0 o oD n i : Nat} {r : Nat → Nat} {f : Hm} {H : Heap} {locs : List Loc} {cells slots : Nat} (hcf : cells + 16 ≤ R.cells ∧ slots + 700 ≤ R.slots) (hJ : JS Γ f x0 m0 o oD r n) (hn : n ≤ 511) (hi : i + 4 ≤ L) (hL : L ≤ 2048) (hH : hm_H Γ f H) (hS : va_S (gA Γ) s.heap H locs) (ls : Array Slot) (hl : lv_has ls 9 [(5, .int (nI i)), (4, .ref oD), (3, .ref o), (2, .ref m0), (1, .ref x0), (0, .ref b)])
    (K_ : ∀ (f' : Hm) (H' : Heap) (locs' : List Loc), JS Γ f' x0 m0 o oD r (n + 1) → hm_H Γ f' H' → va_S (gA Γ) s.heap H' locs' → ∀ ls' : Array Slot, lv_has ls' 9 [(5, .int (nI i)), (4, .ref oD), (3, .ref o), (2, .ref m0), (1, .ref x0), (0, .ref b)] → W p l e R s m args below meth c H' locs' (cells + 16) (slots + 700) Q (F0 m 1753 ls' [])) : W p l e R s m args below meth c H locs cells slots Q (F0 m 1407 ls []) := by
  obtain ⟨th, K, kp, ck, msh, msm, mso, mf, E, cn, us, so, sh, sm, np, mon, ng, gs, nt, ts, lim, rf, sp, rr, hC, hM, hI, hrI, ⟨g0, ho⟩, ⟨gD, hoD⟩⟩ := hJ
  have h34 := hm_c34 hK
  have hgs := hI.gok (by omega)
  obtain ⟨⟨hnp, hng, hnt, hr1, hrr, hkr⟩, hIg, hdf0, hIt, hIs, ⟨⟨σ, hσ⟩, hIc, hcn, hok, hmk⟩, hrf, hmon⟩ := id hI
  have hkp : kp ≤ 64 := by omega
  have hL4 : i + 3 < L := by omega
  refine lv_aload_n hx hb dL_law_1407 rfl (lv_at hl 4 rfl) ?_
  refine lv_aload_n hx hb dL_law_1408 rfl (lv_at hl 5 rfl) ?_
  refine lv_iload hx hb dL_law_1409 (lv_at hl 0 rfl) ?_
  refine lv_iconst (v := 1) hx hb dL_law_1411 (by decide) ?_
  refine lv_iadd hx hb dL_law_1412 ?_
  refine lv_topi (fun v1 ev1 => ?_)
  replace ev1 : v1 = nI (i + 1) := ev1.trans (nI_add _ 1)
  subst ev1
  refine va_sld hx hb hX hbl hbA hS (vp_in_nI (by omega) (by omega)) dL_law_1413 ?_
  refine lv_topi (fun a2 ea2 => ?_)
  refine lv_aload_n hx hb dL_law_1414 rfl (lv_at hl 2 rfl) ?_
  refine hm_callSW (rest := []) (k := 7) q4_145 q4_146 q1_0 q4_147 nm_L_isVoid rfl hx hb hml hown hts hK hO hS hH hl.1 (l_isVoid Γ l x0 mf E cn us so sh sm np mon ng gs nt ts lim rf sp rr o g0 a2 f hst hC hnp hng hnt hr1 hrr hgs  ho) ⟨by omega, by omega⟩ ⟨by omega, by omega⟩ rfl (Nat.le_of_ble_eq_true rfl) dL_law_1415 (fun v1_ f1_ H locs hp_ hH hS => ?_)
  obtain ⟨k_, rfl⟩ := wP.val hp_
  refine W.eq (g2 := F0 m 1418 ls [.int k_]) rfl ?_
  have hM1 := hM.kpO ho hp_.2
  obtain ⟨⟨dz, gd, hih, mih, fh, hm1⟩, -⟩ := id hM1
  refine lv_istore (lv' := [(6, .int k_), (5, .int (nI i)), (4, .ref oD), (3, .ref o), (2, .ref m0), (1, .ref x0), (0, .ref b)]) hx hb dL_law_1418 hl (by decide) rfl (fun ls hl => ?_)
  refine lv_aload_n hx hb dL_law_1420 rfl (lv_at hl 4 rfl) ?_
  refine lv_aload_n hx hb dL_law_1421 rfl (lv_at hl 6 rfl) ?_
  refine lv_iload hx hb dL_law_1422 (lv_at hl 1 rfl) ?_
  refine lv_iconst (v := 1) hx hb dL_law_1424 (by decide) ?_
  refine lv_iadd hx hb dL_law_1425 ?_
  refine lv_topi (fun v3 ev3 => ?_)
  replace ev3 : v3 = nI (i + 1) := ev3.trans (nI_add _ 1)
  subst ev3
  refine va_sld hx hb hX hbl hbA hS (vp_in_nI (by omega) (by omega)) dL_law_1426 ?_
  refine lv_topi (fun a4 ea4 => ?_)
  replace ea4 : a4 = a2 := ea4.trans ea2.symm
  rw [ea4]
  refine hm_callV (rest := []) (k := 3) q6_57 q6_58 q1_9 q6_60 q6_59 rfl nm_X8_isVoid rfl hx hb hml hown hts hK hO hS hH hl.1 hm1 (w_X8_isVoid Γ l m0 r th K kp ck msh msm mso np mon ng gs nt ts lim rf sp rr a2 f1_ hM1 hnp hng hnt hr1 hrr hkr hrI hgs ) ⟨by omega, by omega⟩ ⟨by omega, by omega⟩ rfl (Nat.le_of_ble_eq_true rfl) dL_law_1427 (fun v2_ f2_ H locs hq_ hH hS => ?_)
  obtain ⟨b_, rfl⟩ := mP.val hq_
  refine W.eq (g2 := F0 m 1430 ls [.int b_]) rfl ?_
  have hBz : k_ = 0 → b_ = _ := fun z => mP.bool hq_ (wP.zero hp_ z)
  obtain ⟨k2, b2, e1_, e2_, hR⟩ := j_isVoid h34 hn hI hM hrI ho hoD hp_ hq_
  cases e1_
  cases e2_
  obtain ⟨⟨y1, y2, y3, y4, y5, y6, y7, y8, y9, y10, y11, y12, y13, y14, y15, y16, y17, hmt⟩, ⟨g2, ho2, hg2⟩, hJ2⟩ := hR
  refine lv_istore (lv' := [(7, .int b_), (6, .int k_), (5, .int (nI i)), (4, .ref oD), (3, .ref o), (2, .ref m0), (1, .ref x0), (0, .ref b)]) hx hb dL_law_1430 hl (by decide) rfl (fun ls hl => ?_)
  refine lv_aload_n hx hb dL_law_1432 rfl (lv_at hl 5 rfl) ?_
  refine hm_callV (rest := []) (k := 1) q5_111 q5_112 q1_9 q5_114 q5_113 rfl nm_X8_thrown rfl hx hb hml hown hts hK hO hS hH hl.1 hmt (c_X8_thrown Γ l m0 r _ _ _ _ _ _ _ _ _ _ _ _ _ _ _ _ _ _ f2_ hmt) ⟨by omega, by omega⟩ ⟨by omega, by omega⟩ rfl (Nat.le_of_ble_eq_true rfl) dL_law_1433 (fun v_ f_ H locs hp2_ hH hS => ?_)
  obtain ⟨rfl, ef_⟩ := hp2_
  rw [ef_] at hH
  clear ef_
  refine W.eq (g2 := F0 m 1436 ls [.int k_]) rfl ?_
  refine lv_iload hx hb dL_law_1436 (lv_at hl 1 rfl) ?_
  refine lv_icmp_eq (tgt := 1443) hx hb dL_law_1438 (by decide) (fun _ => ?_) (fun c5 => absurd (rfl) c5)
  refine lv_iload hx hb dL_law_1443 (lv_at hl 1 rfl) ?_
  refine lv_if_ne (tgt := 1467) hx hb dL_law_1445 (by decide) (fun c6 => ?_) (fun c6 => ?_)
  · refine lv_goto (tgt := 1753) hx hb dL_law_1467 (by decide) ?_
    refine W.widen (k := cells + 16) (n := slots + 700) (by omega) (by omega) ?_
    exact K_ f2_ H locs hJ2 hH hS ls (lv_sub hl [2, 3, 4, 5, 6, 7] rfl)
  · have hB0 := hBz c6
    revert hB0
    generalize hBB : bI _ = bb_
    intro hB0
    subst hB0
    obtain ⟨BB, eBB⟩ : ∃ BB, b_ = bI BB := ⟨_, hBB.symm⟩
    subst eBB
    refine lv_aload_n hx hb dL_law_1448 rfl (lv_at hl 4 rfl) ?_
    refine lv_iconst (v := 0) hx hb dL_law_1449 (by decide) ?_
    refine hm_lald hx hb hK hH ho2 (by unfold vp_in; decide) dL_law_1450 ?_
    refine lv_topl (fun v7 ev7 => ?_)
    replace ev7 : v7 = ((bI BB).toInt64) := ev7.trans (by show g2 0 = _; exact hg2 c6)
    subst ev7
    refine lv_iload hx hb dL_law_1451 (lv_at hl 0 rfl) ?_
    refine lv_if_eq (tgt := 1460) hx hb dL_law_1453 (by decide) (fun c8 => ?_) (fun c8 => ?_)
    · refine lv_lconst (v := 0) hx hb dL_law_1460 (by decide) ?_
      refine W.lcmp hx hb dL_law_1461 ?_
      refine lv_if_eq (tgt := 1467) hx hb dL_law_1462 (by decide) (fun _ => ?_) (fun c10 => absurd (m_cmp.mpr (by rw [bI_0.mp c8]; rfl)) c10)
      refine lv_goto (tgt := 1753) hx hb dL_law_1467 (by decide) ?_
      refine W.widen (k := cells + 16) (n := slots + 700) (by omega) (by omega) ?_
      exact K_ f2_ H locs hJ2 hH hS ls (lv_sub hl [2, 3, 4, 5, 6, 7] rfl)
    · refine lv_lconst (v := 1) hx hb dL_law_1456 (by decide) ?_
      refine lv_goto (tgt := 1461) hx hb dL_law_1457 (by decide) ?_
      refine W.lcmp hx hb dL_law_1461 ?_
      refine lv_if_eq (tgt := 1467) hx hb dL_law_1462 (by decide) (fun _ => ?_) (fun c12 => absurd (m_cmp.mpr (by rw [bI_n.mp c8]; rfl)) c12)
      refine lv_goto (tgt := 1753) hx hb dL_law_1467 (by decide) ?_
      refine W.widen (k := cells + 16) (n := slots + 700) (by omega) (by omega) ?_
      exact K_ f2_ H locs hJ2 hH hS ls (lv_sub hl [2, 3, 4, 5, 6, 7] rfl)
set_option maxHeartbeats 4000000 in
set_option maxRecDepth 100000 in
theorem cs_playerOf {p : Program} {l : Launch} {e : Env} {R : Room} {s : State} {m : MethodId} {args : Array Value} {below : List Frame} {meth : Method} {c : Code} {Q : State → Prop} (Γ : Gm) (hx : p.tables.exec = Jvm.exec) (hb : c.code = cL_law) (hml : c.maxLocals = 9) (hown : s.vm.findClass "TileWardenLaw" = some m.cls) (hts : ∀ w ∈ lwG, w.before args s = true) (hK : KK Γ s) (hO : hm_O Γ s.heap) (hst : l.stackTraces = false) {b L : Nat} {xs : Nat → Int32} (hX : va_X b L xs s s.heap) (hbl : b < s.heap.size) (hbA : ¬ gA Γ b) (hRf : 400 ≤ R.frames ∧ 10000 ≤ R.locals) {x0 m0 o oD n i : Nat} {r : Nat → Nat} {f : Hm} {H : Heap} {locs : List Loc} {cells slots : Nat} (hcf : cells + 16 ≤ R.cells ∧ slots + 700 ≤ R.slots) (hJ : JS Γ f x0 m0 o oD r n) (hn : n ≤ 511) (hi : i + 4 ≤ L) (hL : L ≤ 2048) (hH : hm_H Γ f H) (hS : va_S (gA Γ) s.heap H locs) (ls : Array Slot) (hl : lv_has ls 9 [(5, .int (nI i)), (4, .ref oD), (3, .ref o), (2, .ref m0), (1, .ref x0), (0, .ref b)])
    (K_ : ∀ (f' : Hm) (H' : Heap) (locs' : List Loc), JS Γ f' x0 m0 o oD r (n + 1) → hm_H Γ f' H' → va_S (gA Γ) s.heap H' locs' → ∀ ls' : Array Slot, lv_has ls' 9 [(5, .int (nI i)), (4, .ref oD), (3, .ref o), (2, .ref m0), (1, .ref x0), (0, .ref b)] → W p l e R s m args below meth c H' locs' (cells + 16) (slots + 700) Q (F0 m 1753 ls' [])) : W p l e R s m args below meth c H locs cells slots Q (F0 m 1483 ls []) := by
  obtain ⟨th, K, kp, ck, msh, msm, mso, mf, E, cn, us, so, sh, sm, np, mon, ng, gs, nt, ts, lim, rf, sp, rr, hC, hM, hI, hrI, ⟨g0, ho⟩, ⟨gD, hoD⟩⟩ := hJ
  have h34 := hm_c34 hK
  have hgs := hI.gok (by omega)
  obtain ⟨⟨hnp, hng, hnt, hr1, hrr, hkr⟩, hIg, hdf0, hIt, hIs, ⟨⟨σ, hσ⟩, hIc, hcn, hok, hmk⟩, hrf, hmon⟩ := id hI
  have hkp : kp ≤ 64 := by omega
  have hL4 : i + 3 < L := by omega
  refine lv_aload_n hx hb dL_law_1483 rfl (lv_at hl 4 rfl) ?_
  refine lv_aload_n hx hb dL_law_1484 rfl (lv_at hl 5 rfl) ?_
  refine lv_iload hx hb dL_law_1485 (lv_at hl 0 rfl) ?_
  refine lv_iconst (v := 1) hx hb dL_law_1487 (by decide) ?_
  refine lv_iadd hx hb dL_law_1488 ?_
  refine lv_topi (fun v1 ev1 => ?_)
  replace ev1 : v1 = nI (i + 1) := ev1.trans (nI_add _ 1)
  subst ev1
  refine va_sld hx hb hX hbl hbA hS (vp_in_nI (by omega) (by omega)) dL_law_1489 ?_
  refine lv_topi (fun a2 ea2 => ?_)
  refine lv_aload_n hx hb dL_law_1490 rfl (lv_at hl 2 rfl) ?_
  refine hm_callSW (rest := []) (k := 7) q4_152 q4_153 q1_0 q4_154 nm_L_playerOf rfl hx hb hml hown hts hK hO hS hH hl.1 (l_playerOf Γ l x0 mf E cn us so sh sm np mon ng gs nt ts lim rf sp rr o g0 a2 f hst hC hnp hng hnt hr1 hrr hgs  ho) ⟨by omega, by omega⟩ ⟨by omega, by omega⟩ rfl (Nat.le_of_ble_eq_true rfl) dL_law_1491 (fun v1_ f1_ H locs hp_ hH hS => ?_)
  obtain ⟨k_, rfl⟩ := wP.val hp_
  refine W.eq (g2 := F0 m 1494 ls [.int k_]) rfl ?_
  have hM1 := hM.kpO ho hp_.2
  obtain ⟨⟨dz, gd, hih, mih, fh, hm1⟩, -⟩ := id hM1
  refine lv_istore (lv' := [(6, .int k_), (5, .int (nI i)), (4, .ref oD), (3, .ref o), (2, .ref m0), (1, .ref x0), (0, .ref b)]) hx hb dL_law_1494 hl (by decide) rfl (fun ls hl => ?_)
  refine lv_aload_n hx hb dL_law_1496 rfl (lv_at hl 4 rfl) ?_
  refine lv_aload_n hx hb dL_law_1497 rfl (lv_at hl 6 rfl) ?_
  refine lv_iload hx hb dL_law_1498 (lv_at hl 1 rfl) ?_
  refine lv_iconst (v := 1) hx hb dL_law_1500 (by decide) ?_
  refine lv_iadd hx hb dL_law_1501 ?_
  refine lv_topi (fun v3 ev3 => ?_)
  replace ev3 : v3 = nI (i + 1) := ev3.trans (nI_add _ 1)
  subst ev3
  refine va_sld hx hb hX hbl hbA hS (vp_in_nI (by omega) (by omega)) dL_law_1502 ?_
  refine lv_topi (fun a4 ea4 => ?_)
  replace ea4 : a4 = a2 := ea4.trans ea2.symm
  rw [ea4]
  refine hm_callV (rest := []) (k := 3) q6_65 q6_66 q1_9 q6_68 q6_67 rfl nm_X8_playerOf rfl hx hb hml hown hts hK hO hS hH hl.1 hm1 (w_X8_playerOf Γ l m0 r th K kp ck msh msm mso np mon ng gs nt ts lim rf sp rr a2 f1_ hM1 hnp hng hnt hr1 hrr hkr hrI hgs ) ⟨by omega, by omega⟩ ⟨by omega, by omega⟩ rfl (Nat.le_of_ble_eq_true rfl) dL_law_1503 (fun v2_ f2_ H locs hq_ hH hS => ?_)
  obtain ⟨b_, rfl⟩ := mP.val hq_
  refine W.eq (g2 := F0 m 1506 ls [.int b_]) rfl ?_
  obtain ⟨k2, b2, e1_, e2_, hR⟩ := j_playerOf h34 hn hI hM hrI ho hoD hp_ hq_
  cases e1_
  cases e2_
  obtain ⟨⟨y1, y2, y3, y4, y5, y6, y7, y8, y9, y10, y11, y12, y13, y14, y15, y16, y17, hmt⟩, ⟨g2, ho2, hg2⟩, hJ2⟩ := hR
  refine lv_istore (lv' := [(7, .int b_), (6, .int k_), (5, .int (nI i)), (4, .ref oD), (3, .ref o), (2, .ref m0), (1, .ref x0), (0, .ref b)]) hx hb dL_law_1506 hl (by decide) rfl (fun ls hl => ?_)
  refine lv_aload_n hx hb dL_law_1508 rfl (lv_at hl 5 rfl) ?_
  refine hm_callV (rest := []) (k := 1) q5_111 q5_112 q1_9 q5_114 q5_113 rfl nm_X8_thrown rfl hx hb hml hown hts hK hO hS hH hl.1 hmt (c_X8_thrown Γ l m0 r _ _ _ _ _ _ _ _ _ _ _ _ _ _ _ _ _ _ f2_ hmt) ⟨by omega, by omega⟩ ⟨by omega, by omega⟩ rfl (Nat.le_of_ble_eq_true rfl) dL_law_1509 (fun v_ f_ H locs hp2_ hH hS => ?_)
  obtain ⟨rfl, ef_⟩ := hp2_
  rw [ef_] at hH
  clear ef_
  refine W.eq (g2 := F0 m 1512 ls [.int k_]) rfl ?_
  refine lv_iload hx hb dL_law_1512 (lv_at hl 1 rfl) ?_
  refine lv_icmp_eq (tgt := 1519) hx hb dL_law_1514 (by decide) (fun _ => ?_) (fun c5 => absurd (rfl) c5)
  refine lv_iload hx hb dL_law_1519 (lv_at hl 1 rfl) ?_
  refine lv_if_ne (tgt := 1536) hx hb dL_law_1521 (by decide) (fun c6 => ?_) (fun c6 => ?_)
  · refine lv_goto (tgt := 1753) hx hb dL_law_1536 (by decide) ?_
    refine W.widen (k := cells + 16) (n := slots + 700) (by omega) (by omega) ?_
    exact K_ f2_ H locs hJ2 hH hS ls (lv_sub hl [2, 3, 4, 5, 6, 7] rfl)
  · refine lv_aload_n hx hb dL_law_1524 rfl (lv_at hl 4 rfl) ?_
    refine lv_iconst (v := 0) hx hb dL_law_1525 (by decide) ?_
    refine hm_lald hx hb hK hH ho2 (by unfold vp_in; decide) dL_law_1526 ?_
    refine lv_topl (fun v7 ev7 => ?_)
    replace ev7 : v7 = ((b_).toInt64) := ev7.trans (by show g2 0 = _; exact hg2 c6)
    subst ev7
    refine lv_iload hx hb dL_law_1527 (lv_at hl 0 rfl) ?_
    refine lv_i2l hx hb dL_law_1529 rfl ?_
    refine lv_topl (fun v8 ev8 => ?_)
    replace ev8 : v8 = ((b_).toInt64) := ev8.trans (rfl)
    subst ev8
    refine W.lcmp hx hb dL_law_1530 ?_
    refine lv_if_eq (tgt := 1536) hx hb dL_law_1531 (by decide) (fun _ => ?_) (fun c10 => absurd (m_cmp.mpr rfl) c10)
    refine lv_goto (tgt := 1753) hx hb dL_law_1536 (by decide) ?_
    refine W.widen (k := cells + 16) (n := slots + 700) (by omega) (by omega) ?_
    exact K_ f2_ H locs hJ2 hH hS ls (lv_sub hl [2, 3, 4, 5, 6, 7] rfl)
set_option maxHeartbeats 4000000 in
set_option maxRecDepth 100000 in
theorem cs_pushOf {p : Program} {l : Launch} {e : Env} {R : Room} {s : State} {m : MethodId} {args : Array Value} {below : List Frame} {meth : Method} {c : Code} {Q : State → Prop} (Γ : Gm) (hx : p.tables.exec = Jvm.exec) (hb : c.code = cL_law) (hml : c.maxLocals = 9) (hown : s.vm.findClass "TileWardenLaw" = some m.cls) (hts : ∀ w ∈ lwG, w.before args s = true) (hK : KK Γ s) (hO : hm_O Γ s.heap) (hst : l.stackTraces = false) {b L : Nat} {xs : Nat → Int32} (hX : va_X b L xs s s.heap) (hbl : b < s.heap.size) (hbA : ¬ gA Γ b) (hRf : 400 ≤ R.frames ∧ 10000 ≤ R.locals) {x0 m0 o oD n i : Nat} {r : Nat → Nat} {f : Hm} {H : Heap} {locs : List Loc} {cells slots : Nat} (hcf : cells + 16 ≤ R.cells ∧ slots + 700 ≤ R.slots) (hJ : JS Γ f x0 m0 o oD r n) (hn : n ≤ 511) (hi : i + 4 ≤ L) (hL : L ≤ 2048) (hH : hm_H Γ f H) (hS : va_S (gA Γ) s.heap H locs) (ls : Array Slot) (hl : lv_has ls 9 [(5, .int (nI i)), (4, .ref oD), (3, .ref o), (2, .ref m0), (1, .ref x0), (0, .ref b)])
    (K_ : ∀ (f' : Hm) (H' : Heap) (locs' : List Loc), JS Γ f' x0 m0 o oD r (n + 1) → hm_H Γ f' H' → va_S (gA Γ) s.heap H' locs' → ∀ ls' : Array Slot, lv_has ls' 9 [(5, .int (nI i)), (4, .ref oD), (3, .ref o), (2, .ref m0), (1, .ref x0), (0, .ref b)] → W p l e R s m args below meth c H' locs' (cells + 16) (slots + 700) Q (F0 m 1753 ls' [])) : W p l e R s m args below meth c H locs cells slots Q (F0 m 1539 ls []) := by
  obtain ⟨th, K, kp, ck, msh, msm, mso, mf, E, cn, us, so, sh, sm, np, mon, ng, gs, nt, ts, lim, rf, sp, rr, hC, hM, hI, hrI, ⟨g0, ho⟩, ⟨gD, hoD⟩⟩ := hJ
  have h34 := hm_c34 hK
  have hgs := hI.gok (by omega)
  obtain ⟨⟨hnp, hng, hnt, hr1, hrr, hkr⟩, hIg, hdf0, hIt, hIs, ⟨⟨σ, hσ⟩, hIc, hcn, hok, hmk⟩, hrf, hmon⟩ := id hI
  have hkp : kp ≤ 64 := by omega
  have hL4 : i + 3 < L := by omega
  refine lv_aload_n hx hb dL_law_1539 rfl (lv_at hl 4 rfl) ?_
  refine lv_aload_n hx hb dL_law_1540 rfl (lv_at hl 5 rfl) ?_
  refine lv_iload hx hb dL_law_1541 (lv_at hl 0 rfl) ?_
  refine lv_iconst (v := 1) hx hb dL_law_1543 (by decide) ?_
  refine lv_iadd hx hb dL_law_1544 ?_
  refine lv_topi (fun v1 ev1 => ?_)
  replace ev1 : v1 = nI (i + 1) := ev1.trans (nI_add _ 1)
  subst ev1
  refine va_sld hx hb hX hbl hbA hS (vp_in_nI (by omega) (by omega)) dL_law_1545 ?_
  refine lv_topi (fun a2 ea2 => ?_)
  refine lv_aload_n hx hb dL_law_1546 rfl (lv_at hl 2 rfl) ?_
  refine hm_callSW (rest := []) (k := 7) q4_164 q4_165 q1_0 q4_166 nm_L_pushOf rfl hx hb hml hown hts hK hO hS hH hl.1 (l_pushOf Γ l x0 mf E cn us so sh sm np mon ng gs nt ts lim rf sp rr o g0 a2 f hst hC hnp hng hnt hr1 hrr hgs  ho) ⟨by omega, by omega⟩ ⟨by omega, by omega⟩ rfl (Nat.le_of_ble_eq_true rfl) dL_law_1547 (fun v1_ f1_ H locs hp_ hH hS => ?_)
  obtain ⟨k_, rfl⟩ := wP.val hp_
  refine W.eq (g2 := F0 m 1550 ls [.int k_]) rfl ?_
  have hM1 := hM.kpO ho hp_.2
  obtain ⟨⟨dz, gd, hih, mih, fh, hm1⟩, -⟩ := id hM1
  refine lv_istore (lv' := [(6, .int k_), (5, .int (nI i)), (4, .ref oD), (3, .ref o), (2, .ref m0), (1, .ref x0), (0, .ref b)]) hx hb dL_law_1550 hl (by decide) rfl (fun ls hl => ?_)
  refine lv_aload_n hx hb dL_law_1552 rfl (lv_at hl 4 rfl) ?_
  refine lv_aload_n hx hb dL_law_1553 rfl (lv_at hl 6 rfl) ?_
  refine lv_iload hx hb dL_law_1554 (lv_at hl 1 rfl) ?_
  refine lv_iconst (v := 1) hx hb dL_law_1556 (by decide) ?_
  refine lv_iadd hx hb dL_law_1557 ?_
  refine lv_topi (fun v3 ev3 => ?_)
  replace ev3 : v3 = nI (i + 1) := ev3.trans (nI_add _ 1)
  subst ev3
  refine va_sld hx hb hX hbl hbA hS (vp_in_nI (by omega) (by omega)) dL_law_1558 ?_
  refine lv_topi (fun a4 ea4 => ?_)
  replace ea4 : a4 = a2 := ea4.trans ea2.symm
  rw [ea4]
  refine hm_callV (rest := []) (k := 3) q6_73 q6_74 q1_9 q6_76 q6_75 rfl nm_X8_pushOf rfl hx hb hml hown hts hK hO hS hH hl.1 hm1 (w_X8_pushOf Γ l m0 r th K kp ck msh msm mso np mon ng gs nt ts lim rf sp rr a2 f1_ hM1 hnp hng hnt hr1 hrr hkr hrI hgs ) ⟨by omega, by omega⟩ ⟨by omega, by omega⟩ rfl (Nat.le_of_ble_eq_true rfl) dL_law_1559 (fun v2_ f2_ H locs hq_ hH hS => ?_)
  obtain ⟨b_, rfl⟩ := mP.val hq_
  refine W.eq (g2 := F0 m 1562 ls [.int b_]) rfl ?_
  obtain ⟨k2, b2, e1_, e2_, hR⟩ := j_pushOf h34 hn hI hM hrI ho hoD hp_ hq_
  cases e1_
  cases e2_
  obtain ⟨⟨y1, y2, y3, y4, y5, y6, y7, y8, y9, y10, y11, y12, y13, y14, y15, y16, y17, hmt⟩, ⟨g2, ho2, hg2⟩, hJ2⟩ := hR
  refine lv_istore (lv' := [(7, .int b_), (6, .int k_), (5, .int (nI i)), (4, .ref oD), (3, .ref o), (2, .ref m0), (1, .ref x0), (0, .ref b)]) hx hb dL_law_1562 hl (by decide) rfl (fun ls hl => ?_)
  refine lv_aload_n hx hb dL_law_1564 rfl (lv_at hl 5 rfl) ?_
  refine hm_callV (rest := []) (k := 1) q5_111 q5_112 q1_9 q5_114 q5_113 rfl nm_X8_thrown rfl hx hb hml hown hts hK hO hS hH hl.1 hmt (c_X8_thrown Γ l m0 r _ _ _ _ _ _ _ _ _ _ _ _ _ _ _ _ _ _ f2_ hmt) ⟨by omega, by omega⟩ ⟨by omega, by omega⟩ rfl (Nat.le_of_ble_eq_true rfl) dL_law_1565 (fun v_ f_ H locs hp2_ hH hS => ?_)
  obtain ⟨rfl, ef_⟩ := hp2_
  rw [ef_] at hH
  clear ef_
  refine W.eq (g2 := F0 m 1568 ls [.int k_]) rfl ?_
  refine lv_iload hx hb dL_law_1568 (lv_at hl 1 rfl) ?_
  refine lv_icmp_eq (tgt := 1575) hx hb dL_law_1570 (by decide) (fun _ => ?_) (fun c5 => absurd (rfl) c5)
  refine lv_iload hx hb dL_law_1575 (lv_at hl 1 rfl) ?_
  refine lv_if_ne (tgt := 1592) hx hb dL_law_1577 (by decide) (fun c6 => ?_) (fun c6 => ?_)
  · refine lv_goto (tgt := 1753) hx hb dL_law_1592 (by decide) ?_
    refine W.widen (k := cells + 16) (n := slots + 700) (by omega) (by omega) ?_
    exact K_ f2_ H locs hJ2 hH hS ls (lv_sub hl [2, 3, 4, 5, 6, 7] rfl)
  · refine lv_aload_n hx hb dL_law_1580 rfl (lv_at hl 4 rfl) ?_
    refine lv_iconst (v := 0) hx hb dL_law_1581 (by decide) ?_
    refine hm_lald hx hb hK hH ho2 (by unfold vp_in; decide) dL_law_1582 ?_
    refine lv_topl (fun v7 ev7 => ?_)
    replace ev7 : v7 = ((b_).toInt64) := ev7.trans (by show g2 0 = _; exact hg2 c6)
    subst ev7
    refine lv_iload hx hb dL_law_1583 (lv_at hl 0 rfl) ?_
    refine lv_i2l hx hb dL_law_1585 rfl ?_
    refine lv_topl (fun v8 ev8 => ?_)
    replace ev8 : v8 = ((b_).toInt64) := ev8.trans (rfl)
    subst ev8
    refine W.lcmp hx hb dL_law_1586 ?_
    refine lv_if_eq (tgt := 1592) hx hb dL_law_1587 (by decide) (fun _ => ?_) (fun c10 => absurd (m_cmp.mpr rfl) c10)
    refine lv_goto (tgt := 1753) hx hb dL_law_1592 (by decide) ?_
    refine W.widen (k := cells + 16) (n := slots + 700) (by omega) (by omega) ?_
    exact K_ f2_ H locs hJ2 hH hS ls (lv_sub hl [2, 3, 4, 5, 6, 7] rfl)
