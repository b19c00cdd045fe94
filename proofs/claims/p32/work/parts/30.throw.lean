/-! throwing: what a new exception leaves of the world; calls that may throw -/
abbrev xN : List String := ["java/lang/RuntimeException", "java/lang/Exception"]
def xAt (own : String) (ic : Nat) (cls : String) : Prop := (∀ w ∈ vx_atS own ic cls xN, (w ∈ lw_tbl ∧ goodWord w = true) ∨ (∃ q ∈ zC, w = .castable q.1 q.2) ∨ ∃ y ∈ zD, w = .declares y) ∧ ∀ w ∈ vx_atS own ic cls xN, vx_ot w = true
section HX
variable {p : Program} {l : Launch} {e : Env} {R : Room} {s : State} {m : MethodId} {args : Array Value} {below : List Frame} {meth : Method} {c : Code} {H : Heap} {locs : List Loc} {cells slots : Nat} {Q : State → Prop}
variable {cc : ByteArray} {pc nL : Nat} {ls : Array Slot} {rest : List Value} {Γ : Gm} {f : Hm} {a : Nat} {H0 : Heap}
theorem hm_ext {H1 : Heap} (h : hm_H Γ f H) (hq : ∀ q : Nat, q < H.size → H1[q]? = H[q]?) : hm_H Γ f H1 := ⟨fun a e ha => ⟨(h.1 a e ha).1.kept (hq a (hm_lt h ha)), (h.1 a e ha).2⟩, h.2⟩
theorem hm_thr {own cls text : String} {ik is ic mc ms : Nat} {Qc : Array Value → State → Outcome → State → Prop} {XP : String → Hm → Prop} (hx : p.tables.exec = Jvm.exec) (hb : c.code = cc) (hst : l.stackTraces = false) (hml : c.maxLocals = nL) (hsz : ls.size = nL) (hown : s.vm.findClass own = some m.cls) (hk : Cond.classLink own ik cls ∈ lwG) (hini : Cond.initialized cls ∈ lwG) (hzs : (own, is, text) ∈ zS) (hat : xAt own ic cls) (hcls : Bundle.fit cls = true)
    (hts : ∀ w ∈ lwG, w.before args s = true) (hK : KK Γ s) (hO : hm_O Γ s.heap) (hS : va_S (gA Γ) s.heap H locs) (hH : hm_H Γ f H)
    (d0 : decode cc pc = .ok (.new ik, 3)) (d3 : decode cc (pc + 3) = .ok (.dup, 1)) (d4 : decode cc (pc + 4) = .ok (.ldc is, 2)) (d6 : decode cc (pc + 6) = .ok (.invokespecial ic, 3)) (d9 : decode cc (pc + 9) = .ok (.athrow, 1))
    (hout : ∀ x ∈ c.exceptionTable.toList, False) (hlocks : meth.locks = false) (hXP : XP cls f)
    (hRframes : 5 < R.frames) (hRlocals : (rest.map fun v => v.category).sum + 82 ≤ R.locals) (hRcells : cells + 1 ≤ R.cells) (hRslots : slots + 6 ≤ R.slots) (hc : cells + 1 ≤ mc) (hs : slots + 6 ≤ ms) :
    W p l e R s m args below meth c H locs cells slots (vx_MQ below Qc (hm_X Γ XP) args s mc ms (gA Γ)) (F0 m pc ls rest) := by
  obtain ⟨sa, hsa⟩ := hK.2.2.2.1 _ hzs
  refine vx_throwS (names := xN) (sa := sa) (text := text) (A := gA Γ) hx hb hst hown hcls (by decide +kernel) (hts _ hk) (hts _ hini) hsa (fun w hw => ?_) (fun w hw => ?_) (hK.2.1.2.1.kept (fun a _ ha => hO.2 a (Nat.not_le.mp ha))) (hK.2.1.2.2.kept (fun a _ ha => hO.2 a (Nat.not_le.mp ha))) hS (hsz.trans hml.symm) d0 d3 d4 d6 d9 (fun x hx9 => (hout x hx9).elim) hRframes hRlocals hRcells hRslots hlocks (fun t hal hsz1 hkp => ?_) hS.2.2 hc hs
  · rcases hat.1 w hw with ⟨h1, h2⟩ | ⟨q, hq, rfl⟩ | ⟨y, hy, rfl⟩
    · exact hts _ (List.mem_filter.mpr ⟨h1, h2⟩)
    · exact va_Nw.use rfl (hK.2.2.1.1 q hq)
    · exact va_Nw.use rfl (hK.2.2.1.2.1 y hy)
  · rcases List.mem_cons.mp hw with h | h
    · rw [h]; unfold vx_ot; rw [lwG_good hk]; exact Bool.or_true _
    · rcases List.mem_cons.mp h with h | h
      · rw [h]; unfold vx_ot; rw [lwG_good hini]; exact Bool.or_true _
      · exact hat.2 w h
  · exact ⟨⟨f, hXP, hm_ext hH hkp⟩, Nat.le_trans hS.1 hsz1, fun q h1 h2 => (hkp q (Nat.lt_of_lt_of_le h1 hS.1)).trans (hS.2.1 q h1 h2)⟩
theorem hm_thrW {own cls text : String} {ik is ic mc ms : Nat} {Qc : Array Value → State → Outcome → State → Prop} {XP : String → Hm → Prop} (hx : p.tables.exec = Jvm.exec) (hb : c.code = cc) (hst : l.stackTraces = false) (hml : c.maxLocals = nL) (hsz : ls.size = nL) (hown : s.vm.findClass own = some m.cls) (hk : Cond.classLink own ik cls ∈ lwG) (hini : Cond.initialized cls ∈ lwG) (hzs : (own, is, text) ∈ zS) (hat : xAt own ic cls) (hcls : Bundle.fit cls = true)
    (hts : ∀ w ∈ lwG, w.before args s = true) (hK : KK Γ s) (hO : hm_O Γ s.heap) (hS : va_S (gA Γ) s.heap H locs) (hH : hm_H Γ f H)
    (d0 : decode cc pc = .ok (.new ik, 3)) (d3 : decode cc (pc + 3) = .ok (.dup, 1)) (d4 : decode cc (pc + 4) = .ok (.ldc_w is, 3)) (d6 : decode cc (pc + 7) = .ok (.invokespecial ic, 3)) (d9 : decode cc (pc + 10) = .ok (.athrow, 1))
    (hout : ∀ x ∈ c.exceptionTable.toList, False) (hlocks : meth.locks = false) (hXP : XP cls f)
    (hRframes : 5 < R.frames) (hRlocals : (rest.map fun v => v.category).sum + 82 ≤ R.locals) (hRcells : cells + 1 ≤ R.cells) (hRslots : slots + 6 ≤ R.slots) (hc : cells + 1 ≤ mc) (hs : slots + 6 ≤ ms) :
    W p l e R s m args below meth c H locs cells slots (vx_MQ below Qc (hm_X Γ XP) args s mc ms (gA Γ)) (F0 m pc ls rest) := by
  obtain ⟨sa, hsa⟩ := hK.2.2.2.1 _ hzs
  refine vx_throwSW (names := xN) (sa := sa) (text := text) (A := gA Γ) hx hb hst hown hcls (by decide +kernel) (hts _ hk) (hts _ hini) hsa (fun w hw => ?_) (fun w hw => ?_) (hK.2.1.2.1.kept (fun a _ ha => hO.2 a (Nat.not_le.mp ha))) (hK.2.1.2.2.kept (fun a _ ha => hO.2 a (Nat.not_le.mp ha))) hS (hsz.trans hml.symm) d0 d3 d4 d6 d9 (fun x hx9 => (hout x hx9).elim) hRframes hRlocals hRcells hRslots hlocks (fun t hal hsz1 hkp => ?_) hS.2.2 hc hs
  · rcases hat.1 w hw with ⟨h1, h2⟩ | ⟨q, hq, rfl⟩ | ⟨y, hy, rfl⟩
    · exact hts _ (List.mem_filter.mpr ⟨h1, h2⟩)
    · exact va_Nw.use rfl (hK.2.2.1.1 q hq)
    · exact va_Nw.use rfl (hK.2.2.1.2.1 y hy)
  · rcases List.mem_cons.mp hw with h | h
    · rw [h]; unfold vx_ot; rw [lwG_good hk]; exact Bool.or_true _
    · rcases List.mem_cons.mp h with h | h
      · rw [h]; unfold vx_ot; rw [lwG_good hini]; exact Bool.or_true _
      · exact hat.2 w h
  · exact ⟨⟨f, hXP, hm_ext hH hkp⟩, Nat.le_trans hS.1 hsz1, fun q h1 h2 => (hkp q (Nat.lt_of_lt_of_le h1 hS.1)).trans (hS.2.1 q h1 h2)⟩
theorem hm_thrN {cls text Y : String} {r : List String} {ix : Nat} {b : ByteArray} {own : String} {ik is ic mc ms : Nat} {Qc : Array Value → State → Outcome → State → Prop} {XP : String → Hm → Prop} (hx : p.tables.exec = Jvm.exec) (hb : c.code = cc) (hst : l.stackTraces = false) (hml : c.maxLocals = nL) (hsz : ls.size = nL) (hown : s.vm.findClass own = some m.cls) (hk : Cond.classLink own ik cls ∈ lwG) (hini : Cond.initialized cls ∈ lwG) (hzs : (own, is, text) ∈ zS)
    (hat : (∀ w ∈ (xnA own ic cls Y r ix b).filter vx_no, (w ∈ lw_tbl ∧ goodWord w = true) ∨ (∃ q ∈ zC, w = .castable q.1 q.2) ∨ ∃ y ∈ zD, w = .declares y) ∧ ∀ w ∈ (xnA own ic cls Y r ix b).filter vx_no, vx_ot w = true) (hcls : Bundle.fit cls = true) (hnames : ∀ n ∈ Y :: r, Bundle.fit n = true) (b0 : decode b 0 = .ok (.aload_n 0, 1)) (b1 : decode b 1 = .ok (.aload_n 1, 1)) (b2 : decode b 2 = .ok (.invokespecial ix, 3)) (b5 : decode b 5 = .ok (.return_, 1))
    (hts : ∀ w ∈ lwG, w.before args s = true) (hK : KK Γ s) (hO : hm_O Γ s.heap) (hS : va_S (gA Γ) s.heap H locs) (hH : hm_H Γ f H)
    (d0 : decode cc pc = .ok (.new ik, 3)) (d3 : decode cc (pc + 3) = .ok (.dup, 1)) (d4 : decode cc (pc + 4) = .ok (.ldc is, 2)) (d6 : decode cc (pc + 6) = .ok (.invokespecial ic, 3)) (d9 : decode cc (pc + 9) = .ok (.athrow, 1))
    (hout : ∀ x ∈ c.exceptionTable.toList, False) (hlocks : meth.locks = false) (hXP : XP cls f)
    (hRframes : (Y :: r).length + 3 < R.frames) (hRlocals : (rest.map fun v => v.category).sum + (13 * ((Y :: r).length + 1) + 43) ≤ R.locals) (hRcells : cells + 1 ≤ R.cells) (hRslots : slots + 6 ≤ R.slots) (hc : cells + 1 ≤ mc) (hs : slots + 6 ≤ ms) :
    W p l e R s m args below meth c H locs cells slots (vx_MQ below Qc (hm_X Γ XP) args s mc ms (gA Γ)) (F0 m pc ls rest) := by
  obtain ⟨sa, hsa⟩ := hK.2.2.2.1 _ hzs
  refine xn_make (sa := sa) (text := text) (A := gA Γ) (yS := Y) (rS := r) (ix := ix) (b := b) hx hb hst hown hcls hnames b0 b1 b2 b5 (hts _ hk) (hts _ hini) hsa (fun w hw => ?_) (fun w hw => ?_) (hK.2.1.2.1.kept (fun a _ ha => hO.2 a (Nat.not_le.mp ha))) (hK.2.1.2.2.kept (fun a _ ha => hO.2 a (Nat.not_le.mp ha))) hS (hsz.trans hml.symm) d0 d3 d4 d6 hRframes hRlocals hRcells hRslots (fun q H1 ce g1 g2 g3 g4 g5 => xn_athrow hx hb d9 (vx_out (fun x hx9 => (hout x hx9).elim) hlocks g1 g2 g3 (fun t ht _ => ?_) hS.2.2 hc hs))
  · rcases hat.1 w hw with ⟨h1, h2⟩ | ⟨q, hq, rfl⟩ | ⟨y, hy, rfl⟩
    · exact hts _ (List.mem_filter.mpr ⟨h1, h2⟩)
    · exact va_Nw.use rfl (hK.2.2.1.1 q hq)
    · exact va_Nw.use rfl (hK.2.2.1.2.1 y hy)
  · rcases List.mem_cons.mp hw with h | h
    · rw [h]; unfold vx_ot; rw [lwG_good hk]; exact Bool.or_true _
    · rcases List.mem_cons.mp h with h | h
      · rw [h]; unfold vx_ot; rw [lwG_good hini]; exact Bool.or_true _
      · exact hat.2 w h
  · exact ⟨⟨f, hXP, by rw [ht]; exact hm_ext hH g5⟩, by rw [ht]; exact Nat.le_trans hS.1 g4, fun q h1 h2 => by rw [ht]; exact (g5 q (Nat.lt_of_lt_of_le h1 hS.1)).trans (hS.2.1 q h1 h2)⟩
theorem hm_callx {mc ms : Nat} {Post : Option Value → Hm → Prop} {XC : String → Hm → Prop} {st0 : List Value} {aa : Array Value} (hr : vx_Run p l e R s m args below meth c H locs cells slots mc ms (F0 m pc ls st0) rest (hm_Q Γ Post aa) (hm_X Γ XC) (gA Γ)) (hS : va_S (gA Γ) H0 H locs)
    (kx : ∀ (E : String) (ce : Cell) (q9 : Addr) (f' : Hm) (H1 : Heap) (locs1 : List Loc), XC E f' → hm_H Γ f' H1 → va_S (gA Γ) H0 H1 locs1 → H1[q9]? = some ce → ce.vm = .none → s.vm.findClass E = some ce.cls → vx_W p l e R s m args below meth c H1 locs1 (cells + mc) (slots + ms) Q (F0 m pc ls rest) q9)
    (kk : ∀ (v : Option Value) (f' : Hm) (H1 : Heap) (locs1 : List Loc), Post v f' → hm_H Γ f' H1 → va_S (gA Γ) H0 H1 locs1 → W p l e R s m args below meth c H1 locs1 (cells + mc) (slots + ms) Q (F0 m (pc + 3) ls (v.toList ++ rest))) : W p l e R s m args below meth c H locs cells slots Q (F0 m pc ls st0) := by
  intro T hT X
  rcases hr T hT X with ⟨v, st₀, t, T', L, h0, X', hL, e1, e2, ⟨⟨v', f', hv, hp, hh⟩, hF⟩, st⟩ | ⟨q, st₀, t, T', L, E, ce, h0, X', hL, e1, e2, ⟨⟨f', hp, hh⟩, hF⟩, hce, hcv, hcl, st⟩
  · cases hv
    obtain ⟨k1, k2, k3⟩ := vx_keep h0 e1 hS (fun _ _ h => h) (fun _ h => h) hL hF
    obtain ⟨t2, a1, b1⟩ := kk v f' T'.heap (locs ++ L) hp (by rw [e1]; exact hh) k3 T' rfl X'
    exact ⟨t2, st t2 a1, b1⟩
  · obtain ⟨k1, k2, k3⟩ := vx_keep h0 e1 hS (fun _ _ h => h) (fun _ h => h) hL hF
    obtain ⟨t2, a1, b1⟩ := kx E ce q f' T'.heap (locs ++ L) hp (by rw [e1]; exact hh) k3 (by rw [e1]; exact hce) hcv hcl T' rfl X'
    exact ⟨t2, st.trans a1, b1⟩
/-- not caught: it goes on -/
theorem hm_outx {E : String} {ce : Cell} {q9 : Addr} {mc ms : Nat} {Qc : Array Value → State → Outcome → State → Prop} {XP : String → Hm → Prop} (hout : ∀ x ∈ c.exceptionTable.toList, False) (hlocks : meth.locks = false) (hXP : XP E f) (hH : hm_H Γ f H) (hS : va_S (gA Γ) s.heap H locs) (hce : H[q9]? = some ce) (hv : ce.vm = .none) (hcl : s.vm.findClass E = some ce.cls) (hc : cells ≤ mc) (hs : slots ≤ ms) :
    vx_W p l e R s m args below meth c H locs cells slots (vx_MQ below Qc (hm_X Γ XP) args s mc ms (gA Γ)) (F0 m pc ls rest) q9 :=
  vx_out (fun x hx => (hout x hx).elim) hlocks hce hv hcl (fun t ht _ => ⟨⟨f, hXP, by rw [ht]; exact hH⟩, hS.F ht⟩) hS.2.2 hc hs
theorem hm_xS {own : String} {index n nA k mc ms mc0 ms0 : Nat} {y : MethodName} {b : ByteArray} {r : Option FieldType} {As : List Value} {Post : Option Value → Hm → Prop} {XC XP : String → Hm → Prop} {Qc : Array Value → State → Outcome → State → Prop} (hm1 : Cond.methodLink own index y ∈ lwG) (hm2 : Cond.static y ∈ lwG) (hm3 : Cond.initialized y.cls ∈ lwG) (hm4 : Cond.code y b n r ∈ lwG) (hn : hm_nm y nA) (hnA : As.length = nA)
    (hx : p.tables.exec = Jvm.exec) (hb : c.code = cc) (hml : c.maxLocals = nL) (hown : s.vm.findClass own = some m.cls) (hts : ∀ w ∈ lwG, w.before args s = true) (hK : KK Γ s) (hO : hm_O Γ s.heap) (hS : va_S (gA Γ) s.heap H locs) (hH : hm_H Γ f H) (hsz : ls.size = nL) (hout : ∀ x ∈ c.exceptionTable.toList, False) (hlocks : meth.locks = false)
    (hM : Cx Γ l y b n r k mc ms As f Post XC) (hXP : ∀ E f', XC E f' → XP E f') (hc0 : cells + mc ≤ mc0 ∧ slots + ms ≤ ms0) (hR : 10 * k + 1 ≤ R.frames ∧ 8 + (n + 11) + 200 * k ≤ R.locals) (hf : cells + mc ≤ R.cells ∧ slots + ms ≤ R.slots) {st0 : List Value} (hst : st0 = As.reverse ++ rest) (hW : (rest.map fun v => v.category).sum ≤ 8) (hdg : decode cc pc = .ok (.invokestatic index, 3))
    (kk : ∀ (v : Option Value) (f' : Hm) (H1 : Heap) (locs1 : List Loc), Post v f' → hm_H Γ f' H1 → va_S (gA Γ) s.heap H1 locs1 → W p l e R s m args below meth c H1 locs1 (cells + mc) (slots + ms) (vx_MQ below Qc (hm_X Γ XP) args s mc0 ms0 (gA Γ)) (F0 m (pc + 3) ls (v.toList ++ rest))) : W p l e R s m args below meth c H locs cells slots (vx_MQ below Qc (hm_X Γ XP) args s mc0 ms0 (gA Γ)) (F0 m pc ls st0) := by
  have cw : CallB R s args own index y b n r (wz y b n r) (rmk k mc ms) mc ms nA ∧ (Cond.static y).before args s = true := by
    have hG : GoodIn lwG (wz y b n r) := by
      intro w hw
      rcases List.mem_cons.mp hw with q | q
      · rw [q]; exact ⟨hm4, good_of_word (lwG_good hm4)⟩
      · exact ⟨q, good_of_word (lwG_good q)⟩
    exact ⟨callB_of nA hts hG rfl rfl rfl (hts _ hm3) (hts _ hm1) hn hR, hts _ hm2⟩
  exact hm_callx (vx_runS ⟨hx, hb, hml, hown, hts⟩ hM cw (hm_pre hK hO hS hH) rfl hnA hsz hst (lv_room (pc := pc) (ls := ls) (m := m) (rest := rest) hW) hdg hf) hS
    (fun E ce q9 f' H1 locs1 h1 h2 h3 h4 h5 h6 => hm_outx hout hlocks (hXP E f' h1) h2 h3 h4 h5 h6 hc0.1 hc0.2) kk
theorem hm_xV {own C : String} {T : u_T} {N ci : Nat} {fs : List Value} {index n nA k mc ms mc0 ms0 : Nat} {y : MethodName} {b : ByteArray} {r : Option FieldType} {As : List Value} {Post : Option Value → Hm → Prop} {XC XP : String → Hm → Prop} {Qc : Array Value → State → Outcome → State → Prop} (hm1 : Cond.methodLink own index y ∈ lwG) (hm2 : Cond.instanceMethod y ∈ lwG) (hm3 : Cond.initialized y.cls ∈ lwG) (hm4 : Cond.code y b n r ∈ lwG) (hm5 : Cond.selects C y y ∈ lwG) (hc : hcl[ci]? = some (C, T, N)) (hn : hm_nm y nA) (hnA : As.length = nA)
    (hx : p.tables.exec = Jvm.exec) (hb : c.code = cc) (hml : c.maxLocals = nL) (hown : s.vm.findClass own = some m.cls) (hts : ∀ w ∈ lwG, w.before args s = true) (hK : KK Γ s) (hO : hm_O Γ s.heap) (hS : va_S (gA Γ) s.heap H locs) (hH : hm_H Γ f H) (hsz : ls.size = nL) (ha : f a = some (eR ci fs)) (hout : ∀ x ∈ c.exceptionTable.toList, False) (hlocks : meth.locks = false)
    (hM : Cx Γ l y b n r k mc ms (.ref a :: As) f Post XC) (hXP : ∀ E f', XC E f' → XP E f') (hc0 : cells + mc ≤ mc0 ∧ slots + ms ≤ ms0) (hR : 10 * k + 1 ≤ R.frames ∧ 8 + (n + 11) + 200 * k ≤ R.locals) (hf : cells + mc ≤ R.cells ∧ slots + ms ≤ R.slots) {st0 : List Value} (hst : st0 = As.reverse ++ .ref a :: rest) (hW : (rest.map fun v => v.category).sum ≤ 8) (hdg : decode cc pc = .ok (.invokevirtual index, 3))
    (kk : ∀ (v : Option Value) (f' : Hm) (H1 : Heap) (locs1 : List Loc), Post v f' → hm_H Γ f' H1 → va_S (gA Γ) s.heap H1 locs1 → W p l e R s m args below meth c H1 locs1 (cells + mc) (slots + ms) (vx_MQ below Qc (hm_X Γ XP) args s mc0 ms0 (gA Γ)) (F0 m (pc + 3) ls (v.toList ++ rest))) : W p l e R s m args below meth c H locs cells slots (vx_MQ below Qc (hm_X Γ XP) args s mc0 ms0 (gA Γ)) (F0 m pc ls st0) := by
  have hG : GoodIn lwG (wz y b n r) := by
    intro w hw
    rcases List.mem_cons.mp hw with q | q
    · rw [q]; exact ⟨hm4, good_of_word (lwG_good hm4)⟩
    · exact ⟨q, good_of_word (lwG_good q)⟩
  exact hm_callx (vx_runV ⟨hx, hb, hml, hown, hts⟩ hM ⟨callB_of nA hts hG rfl rfl rfl (hts _ hm3) (hts _ hm1) hn hR, hts _ hm2, hts _ hm5⟩ (hm_preV hK hO hS hH ha hc) rfl hnA hsz hst (lv_room (pc := pc) (ls := ls) (m := m) (rest := rest) hW) hdg hf) hS
    (fun E ce q9 f' H1 locs1 h1 h2 h3 h4 h5 h6 => hm_outx hout hlocks (hXP E f' h1) h2 h3 h4 h5 h6 hc0.1 hc0.2) kk
end HX
theorem xA_IA : xAt "TileWarden" 67 "java/lang/IllegalArgumentException" := by unfold xAt; decide +kernel
theorem xA_IS : xAt "TileWarden" 78 "java/lang/IllegalStateException" := by unfold xAt; decide +kernel
theorem xA_UO : xAt "TileWarden" 125 "java/lang/UnsupportedOperationException" := by unfold xAt; decide +kernel
theorem xA_IO : xAt "TileWarden" 271 "java/lang/IndexOutOfBoundsException" := by unfold xAt; decide +kernel
theorem xA_AR : xAt "TileWarden" 254 "java/lang/ArithmeticException" := by unfold xAt; decide +kernel
theorem rng_lo {v : Int32} {n : Nat} (h : v < 0) (hn : n ≤ 2 ^ 31) : ∀ i, i < n → v ≠ nI i := fun i hi q => absurd (q ▸ h) (nI_pos (by omega))
theorem rng_hi {v : Int32} {n : Nat} (h : ¬ v < nI n) (hn : n < 2 ^ 31) : ∀ i, i < n → v ≠ nI i := fun i hi q => h (by rw [q]; exact nI_lt hi hn)
theorem rng_in {v : Int32} {n : Nat} (h0 : ¬ v < 0) (h : v < nI n) (hn : n < 2 ^ 31) : ∃ i, i < n ∧ v = nI i := by
  obtain ⟨j, hj, rfl⟩ := nI_of h0
  exact ⟨j, (nI_ltI hj hn).mp h, rfl⟩
abbrev nsB : ByteArray := prog_48_method_4_code
theorem xA_NS : (∀ w ∈ (xnA "TileWarden" 179 "java/util/NoSuchElementException" "java/lang/RuntimeException" ["java/lang/Exception"] 13 nsB).filter vx_no, (w ∈ lw_tbl ∧ goodWord w = true) ∨ (∃ q ∈ zC, w = .castable q.1 q.2) ∨ ∃ y ∈ zD, w = .declares y) ∧ ∀ w ∈ (xnA "TileWarden" 179 "java/util/NoSuchElementException" "java/lang/RuntimeException" ["java/lang/Exception"] 13 nsB).filter vx_no, vx_ot w = true := by decide +kernel
