/-! the law's own methods: bodies with handlers, calls of them -/
abbrev wy (y : MethodName) (b : ByteArray) (n : Nat) (r : Option FieldType) (tab : List (Nat × Nat × Nat × Nat)) : List Cond := .codeWith y b n r tab :: lwG
def CtW (Γ : Gm) (l : Launch) (y : MethodName) (b : ByteArray) (n : Nat) (r : Option FieldType) (tab : List (Nat × Nat × Nat × Nat)) (k mc ms : Nat) (As : List Value) (f : Hm) (Post : Option Value → Hm → Prop) : Prop :=
  Met l y (wy y b n r tab) (rmk k mc ms) (hm_Pc Γ As f) (hm_Q Γ Post) mc ms (gA Γ)
section LW
variable {p : Program} {l : Launch} {e : Env} {R : Room} {s : State} {m : MethodId} {args : Array Value} {below : List Frame} {meth : Method} {c : Code} {H : Heap} {locs : List Loc} {cells slots : Nat} {Q : State → Prop}
variable {cc : ByteArray} {pc nL : Nat} {ls : Array Slot} {rest : List Value} {Γ : Gm} {f : Hm} {a : Nat} {H0 : Heap}
theorem CtW_of {y : MethodName} {n : Nat} {r : Option FieldType} {tab : List (Nat × Nat × Nat × Nat)} {k mc ms : Nat} {As : List Value} {Post : Option Value → Hm → Prop} (hy : plainName y.cls = true) (hn : (lg_sl As).length ≤ n)
    (body : ∀ (p : Program) (e : Env) (s : State) (m : MethodId) (args : Array Value) (below : List Frame) (meth : Method) (c : Code), p.tables.exec = Jvm.exec → c.code = cc → meth.sig.returnType = r → c.maxLocals = n → s.vm.findClass y.cls = some m.cls → meth.locks = false → c.exceptionTable.toList = tableOf tab → (∀ w ∈ lwG, w.before args s = true) → hm_H Γ f s.heap → hm_O Γ s.heap → KK Γ s →
      ∀ ls : Array Slot, lv_has ls n (lv_args 0 As) → W p l e (rmk k mc ms) s m args below meth c s.heap [] 0 0 (MQ below (hm_Q Γ Post) args s mc ms (gA Γ)) (F0 m 0 ls [])) : CtW Γ l y cc n r tab k mc ms As f Post := by
  refine va_MetW (cc := cc) (maxL := n) (ret := r) (hh := tab) hy rfl ?_
  intro p e s m args below meth c s₁ B hml hv
  obtain ⟨rfl, hH, hO, hK⟩ := hv
  have hts := atoms_spec (ws := wy y cc n r tab) B.pre
  have ht := vx_table (x := y) B (hts _ List.mem_cons_self)
  rw [lg_entry_eq]
  exact body p e s m _ below meth c B.exec B.bytes B.returns hml (findClass_of_methodNamed B.named) B.notSynchronized ht (fun w hw => hts w (List.mem_cons_of_mem _ hw)) hH hO hK _ (lv_entry As hn)
theorem hm_callSW {own : String} {index n nA k mc ms : Nat} {y : MethodName} {b : ByteArray} {r : Option FieldType} {tab : List (Nat × Nat × Nat × Nat)} {As : List Value} {Post : Option Value → Hm → Prop} (hm1 : Cond.methodLink own index y ∈ lwG) (hm2 : Cond.static y ∈ lwG) (hm3 : Cond.initialized y.cls ∈ lwG) (hm4 : Cond.codeWith y b n r tab ∈ lwG) (hn : hm_nm y nA) (hnA : As.length = nA)
    (hx : p.tables.exec = Jvm.exec) (hb : c.code = cc) (hml : c.maxLocals = nL) (hown : s.vm.findClass own = some m.cls) (hts : ∀ w ∈ lwG, w.before args s = true) (hK : KK Γ s) (hO : hm_O Γ s.heap) (hS : va_S (gA Γ) s.heap H locs) (hH : hm_H Γ f H) (hsz : ls.size = nL)
    (hM : CtW Γ l y b n r tab k mc ms As f Post) (hR : 10 * k + 1 ≤ R.frames ∧ 8 + (n + 11) + 200 * k ≤ R.locals) (hf : cells + mc ≤ R.cells ∧ slots + ms ≤ R.slots) {st0 : List Value} (hst : st0 = As.reverse ++ rest) (hW : (rest.map fun v => v.category).sum ≤ 8) (hdg : decode cc pc = .ok (.invokestatic index, 3))
    (kk : ∀ (v : Option Value) (f' : Hm) (H1 : Heap) (locs1 : List Loc), Post v f' → hm_H Γ f' H1 → va_S (gA Γ) s.heap H1 locs1 → W p l e R s m args below meth c H1 locs1 (cells + mc) (slots + ms) Q (F0 m (pc + 3) ls (v.toList ++ rest))) : W p l e R s m args below meth c H locs cells slots Q (F0 m pc ls st0) := by
  have hG : GoodIn lwG (wy y b n r tab) := by
    intro w hw
    rcases List.mem_cons.mp hw with q | q
    · rw [q]; exact ⟨hm4, good_of_word (lwG_good hm4)⟩
    · exact ⟨q, good_of_word (lwG_good q)⟩
  have cw : vx_CSW R s args own index y b n r tab (wy y b n r tab) (rmk k mc ms) mc ms nA :=
    ⟨⟨rfl, rfl, hR.1, hR.2, pay_in hts hG, List.mem_cons_self⟩, hts _ hm4, hts _ hm3, ⟨hn.1, hn.2.1⟩, fun sig h => by
      have h2 := hn.2.2
      rw [h] at h2
      exact (Option.some.inj h2).symm, hts _ hm1, hts _ hm2⟩
  exact hm_call (vx_runSW ⟨hx, hb, hml, hown, hts⟩ hM cw (hm_pre hK hO hS hH) rfl hnA hsz hst (lv_room (pc := pc) (ls := ls) (m := m) (rest := rest) hW) hdg hf) hS kk
theorem hm_xVW {own C : String} {T : u_T} {N ci : Nat} {fs : List Value} {index n nA k mc ms : Nat} {y : MethodName} {b : ByteArray} {r : Option FieldType} {As : List Value} {Post : Option Value → Hm → Prop} {XC : String → Hm → Prop} (hm1 : Cond.methodLink own index y ∈ lwG) (hm2 : Cond.instanceMethod y ∈ lwG) (hm3 : Cond.initialized y.cls ∈ lwG) (hm4 : Cond.code y b n r ∈ lwG) (hm5 : Cond.selects C y y ∈ lwG) (hc : hcl[ci]? = some (C, T, N)) (hn : hm_nm y nA) (hnA : As.length = nA)
    (hx : p.tables.exec = Jvm.exec) (hb : c.code = cc) (hml : c.maxLocals = nL) (hown : s.vm.findClass own = some m.cls) (hts : ∀ w ∈ lwG, w.before args s = true) (hK : KK Γ s) (hO : hm_O Γ s.heap) (hS : va_S (gA Γ) s.heap H locs) (hH : hm_H Γ f H) (hsz : ls.size = nL) (ha : f a = some (eR ci fs))
    (hM : Cx Γ l y b n r k mc ms (.ref a :: As) f Post XC) (hR : 10 * k + 1 ≤ R.frames ∧ 8 + (n + 11) + 200 * k ≤ R.locals) (hf : cells + mc ≤ R.cells ∧ slots + ms ≤ R.slots) {st0 : List Value} (hst : st0 = As.reverse ++ .ref a :: rest) (hW : (rest.map fun v => v.category).sum ≤ 8) (hdg : decode cc pc = .ok (.invokevirtual index, 3))
    (kx : ∀ (E : String) (ce : Cell) (q9 : Addr) (f' : Hm) (H1 : Heap) (locs1 : List Loc), XC E f' → hm_H Γ f' H1 → va_S (gA Γ) s.heap H1 locs1 → H1[q9]? = some ce → ce.vm = .none → s.vm.findClass E = some ce.cls → vx_W p l e R s m args below meth c H1 locs1 (cells + mc) (slots + ms) Q (F0 m pc ls rest) q9)
    (kk : ∀ (v : Option Value) (f' : Hm) (H1 : Heap) (locs1 : List Loc), Post v f' → hm_H Γ f' H1 → va_S (gA Γ) s.heap H1 locs1 → W p l e R s m args below meth c H1 locs1 (cells + mc) (slots + ms) Q (F0 m (pc + 3) ls (v.toList ++ rest))) : W p l e R s m args below meth c H locs cells slots Q (F0 m pc ls st0) := by
  have hG : GoodIn lwG (wz y b n r) := by
    intro w hw
    rcases List.mem_cons.mp hw with q | q
    · rw [q]; exact ⟨hm4, good_of_word (lwG_good hm4)⟩
    · exact ⟨q, good_of_word (lwG_good q)⟩
  exact hm_callx (vx_runV ⟨hx, hb, hml, hown, hts⟩ hM ⟨callB_of nA hts hG rfl rfl rfl (hts _ hm3) (hts _ hm1) hn hR, hts _ hm2, hts _ hm5⟩ (hm_preV hK hO hS hH ha hc) rfl hnA hsz hst (lv_room (pc := pc) (ls := ls) (m := m) (rest := rest) hW) hdg hf) hS kx kk
/-- caught: the first entries pass, this one takes it -/
theorem hm_catch {own name E : String} {ce : Cell} {q : Addr} (hown : s.vm.findClass own = some m.cls) (hts : ∀ w ∈ lwG, w.before args s = true) (hK : KK Γ s) (pre : List ExceptionTableEntry) (x : ExceptionTableEntry) (suf : List ExceptionTableEntry) (hsplit : c.exceptionTable.toList = pre ++ x :: suf)
    (hpass : ∀ z ∈ pre, z.catchType ≠ 0 ∧ ∃ nm : String, Cond.classLink own z.catchType nm ∈ lwG ∧ (E, nm) ∈ zX) (hx : covers x pc = true) (h0 : x.catchType ≠ 0) (hlink : Cond.classLink own x.catchType name ∈ lwG) (hcast : (E, name) ∈ zC) (hcell : H[q]? = some ce) (hv : ce.vm = .none) (hcl : s.vm.findClass E = some ce.cls)
    (kk : W p l e R s m args below meth c H locs cells slots Q (F0 m x.handlerPc ls [.ref q])) : vx_W p l e R s m args below meth c H locs cells slots Q (F0 m pc ls rest) q :=
  vx_catch hown pre x suf hsplit (fun z hz => Or.inr ⟨(hpass z hz).1, by obtain ⟨nm, h1, h2⟩ := (hpass z hz).2; exact ⟨nm, hts _ h1, hK.2.2.2.2.1 _ h2⟩⟩) hx h0 (hts _ hlink) (va_Nw.use rfl (hK.2.2.1.1 _ hcast)) hcell hv hcl kk
end LW
/-- the cells that are not the class's, but one, are as they were -/
def hm_kO (o : Nat) (Γ : Gm) (f f' : Hm) : Prop := ∀ (q : Nat) (e : va_E), q ≠ o → f q = some e → kM (kd Γ e) = true → f' q = some e
theorem hm_kO.of {o : Nat} {Γ : Gm} {f g : Hm} (h : hm_kd kM Γ f g) : hm_kO o Γ f g := fun q e _ hq he => h q e hq he
theorem hm_kO.up {o : Nat} {Γ : Gm} {f g : Hm} {x : va_E} (h : hm_kO o Γ f g) : hm_kO o Γ f (hm_up g o x) := fun q e hq hf he => (hm_un hq).trans (h q e hq hf he)
/-- a wrapper's end -/
def wP (k a : Int32) (Γ : Gm) (o : Nat) (f : Hm) (N O : Hm → Prop) : Option Value → Hm → Prop := fun v f' => ((k = 0 ∧ v = some (.int 0) ∧ (∃ g, f' o = some (eJ Γ 1 g) ∧ g 0 = a.toInt64) ∧ N f') ∨ (k ≠ 0 ∧ v = some (.int k) ∧ (∃ g, f' o = some (eJ Γ 1 g)) ∧ O f')) ∧ hm_kO o Γ f f'
