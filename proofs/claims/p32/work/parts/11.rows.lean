/-! CONTRACTS over the closed world, and the rows of what touches cells -/
def zC : List (String × String) := [("java/lang/IllegalArgumentException", "java/lang/IllegalArgumentException"), ("java/lang/IllegalStateException", "java/lang/IllegalStateException"), ("java/lang/ArrayIndexOutOfBoundsException", "java/lang/ArrayIndexOutOfBoundsException"), ("java/lang/IndexOutOfBoundsException", "java/lang/IndexOutOfBoundsException"), ("java/lang/UnsupportedOperationException", "java/lang/UnsupportedOperationException"), ("java/util/NoSuchElementException", "java/util/NoSuchElementException"), ("java/lang/ArithmeticException", "java/lang/ArithmeticException"), ("[B", "java/lang/Cloneable"), ("java/lang/StringBuilder", "java/lang/Appendable"), ("java/lang/String", "java/lang/CharSequence"), ("java/lang/StringBuilder", "java/lang/CharSequence"), ("java/lang/ArrayIndexOutOfBoundsException", "java/lang/IndexOutOfBoundsException"), ("java/lang/StringBuilder", "java/lang/AbstractStringBuilder"), ("TileWarden$Entry", "java/lang/Object"), ("TileWarden", "java/lang/Object"), ("java/util/ArrayList", "java/lang/Object"), ("TileWarden$Cache", "java/lang/Object"), ("TileWarden$Search", "java/lang/Object"), ("java/lang/IllegalArgumentException", "java/lang/Object"), ("java/lang/IllegalStateException", "java/lang/Object"), ("TileWarden$Player", "java/lang/Object"), ("java/lang/ArrayIndexOutOfBoundsException", "java/lang/Object"), ("java/lang/IndexOutOfBoundsException", "java/lang/Object"), ("TileWarden$Game", "java/lang/Object"), ("java/lang/UnsupportedOperationException", "java/lang/Object"), ("java/util/NoSuchElementException", "java/lang/Object"), ("TileWarden$Trace", "java/lang/Object"), ("java/lang/ArithmeticException", "java/lang/Object"), ("TileWardenLaw$Draw", "java/lang/Object"), ("java/lang/StringBuilder", "java/lang/Object"), ("jdk/internal/math/FloatToDecimal", "java/lang/Object"), ("jdk/internal/math/DoubleToDecimal", "java/lang/Object"), ("java/lang/String", "java/lang/Object"), ("java/lang/Throwable", "java/lang/Object"), ("[LTileWarden$Entry;", "java/lang/Object"), ("[B", "java/lang/Object"), ("[Ljava/lang/Object;", "java/lang/Object"), ("[C", "java/lang/Object")]
def zD : List MethodName := [⟨"java/lang/RuntimeException", "<init>", "()V"⟩, ⟨"java/lang/RuntimeException", "<init>", "(Ljava/lang/String;)V"⟩, ⟨"java/lang/Exception", "<init>", "()V"⟩, ⟨"java/lang/Exception", "<init>", "(Ljava/lang/String;)V"⟩, ⟨"java/lang/Throwable", "<init>", "()V"⟩, ⟨"java/lang/Throwable", "<init>", "(Ljava/lang/String;)V"⟩, ⟨"java/lang/IndexOutOfBoundsException", "<init>", "()V"⟩, ⟨"java/lang/IndexOutOfBoundsException", "<init>", "(Ljava/lang/String;)V"⟩, ⟨"java/lang/Appendable", "append", "(C)Ljava/lang/Appendable;"⟩, ⟨"java/lang/Appendable", "append", "(Ljava/lang/CharSequence;)Ljava/lang/Appendable;"⟩, ⟨"java/lang/CharSequence", "length", "()I"⟩, ⟨"java/lang/CharSequence", "charAt", "(I)C"⟩, ⟨"java/lang/Object", "getClass", "()Ljava/lang/Class;"⟩]
def zS : List (String × Nat × String) := [("TileWarden", 65, "the money is out of range"), ("TileWarden", 76, "there is no place for another player"), ("TileWarden", 269, "there is no such player"), ("TileWarden", 92, "the seed is less than 0"), ("TileWarden", 94, "there is no place for another game"), ("TileWarden", 276, "there is no such game"), ("TileWarden", 280, "there is no such way"), ("TileWarden", 123, "the game is void or the push changes nothing"), ("TileWarden", 282, "the depth is out of range"), ("TileWarden", 284, "the game is void or over"), ("TileWarden", 177, "the player has too little money"), ("TileWarden", 180, "there is no place for another trace"), ("TileWarden", 195, "the room is out of range"), ("TileWarden", 200, "more entries are pinned"), ("TileWarden", 233, "the limit is out of range"), ("TileWarden", 278, "there is no such trace"), ("TileWarden", 252, "no hint that was sold made a hit or a miss"), ("TileWarden", 255, "no hint was sold"), ("TileWarden", 212, "the game is void"), ("TileWarden", 214, "there is no such entry"), ("TileWarden", 235, "the game is void already"), ("jdk/internal/math/FloatToDecimal", 32, "0.0"), ("java/lang/AbstractStringBuilder", 230, "null"), ("jdk/internal/math/FloatToDecimal", 34, "-0.0"), ("jdk/internal/math/FloatToDecimal", 36, "Infinity"), ("jdk/internal/math/FloatToDecimal", 38, "-Infinity"), ("jdk/internal/math/FloatToDecimal", 40, "NaN"), ("jdk/internal/math/DoubleToDecimal", 34, "0.0"), ("jdk/internal/math/DoubleToDecimal", 36, "-0.0"), ("jdk/internal/math/DoubleToDecimal", 38, "Infinity"), ("jdk/internal/math/DoubleToDecimal", 40, "-Infinity"), ("jdk/internal/math/DoubleToDecimal", 42, "NaN"), ("TileWarden", 138, "there is no such cell"), ("java/util/Arrays", 337, " > ")]
def zX : List (String × String) := [("java/lang/IllegalStateException", "java/lang/IllegalArgumentException"), ("java/lang/IndexOutOfBoundsException", "java/lang/IllegalArgumentException"), ("java/lang/UnsupportedOperationException", "java/lang/IllegalArgumentException"), ("java/util/NoSuchElementException", "java/lang/IllegalArgumentException"), ("java/lang/ArithmeticException", "java/lang/IllegalArgumentException"), ("java/lang/IllegalArgumentException", "java/lang/IllegalStateException"), ("java/lang/IndexOutOfBoundsException", "java/lang/IllegalStateException"), ("java/lang/UnsupportedOperationException", "java/lang/IllegalStateException"), ("java/util/NoSuchElementException", "java/lang/IllegalStateException"), ("java/lang/ArithmeticException", "java/lang/IllegalStateException"), ("java/lang/IllegalArgumentException", "java/lang/IndexOutOfBoundsException"), ("java/lang/IllegalStateException", "java/lang/IndexOutOfBoundsException"), ("java/lang/UnsupportedOperationException", "java/lang/IndexOutOfBoundsException"), ("java/util/NoSuchElementException", "java/lang/IndexOutOfBoundsException"), ("java/lang/ArithmeticException", "java/lang/IndexOutOfBoundsException"), ("java/lang/IllegalArgumentException", "java/lang/UnsupportedOperationException"), ("java/lang/IllegalStateException", "java/lang/UnsupportedOperationException"), ("java/lang/IndexOutOfBoundsException", "java/lang/UnsupportedOperationException"), ("java/util/NoSuchElementException", "java/lang/UnsupportedOperationException"), ("java/lang/ArithmeticException", "java/lang/UnsupportedOperationException"), ("java/lang/IllegalArgumentException", "java/util/NoSuchElementException"), ("java/lang/IllegalStateException", "java/util/NoSuchElementException"), ("java/lang/IndexOutOfBoundsException", "java/util/NoSuchElementException"), ("java/lang/UnsupportedOperationException", "java/util/NoSuchElementException"), ("java/lang/ArithmeticException", "java/util/NoSuchElementException"), ("java/lang/IllegalArgumentException", "java/lang/ArithmeticException"), ("java/lang/IllegalStateException", "java/lang/ArithmeticException"), ("java/lang/IndexOutOfBoundsException", "java/lang/ArithmeticException"), ("java/lang/UnsupportedOperationException", "java/lang/ArithmeticException"), ("java/util/NoSuchElementException", "java/lang/ArithmeticException")]
abbrev zN : Cond := .methodLinkNest "TileWarden$Cache" 33 ⟨"TileWarden$Entry", "<init>", "()V"⟩ "TileWarden"
/-- JDK's tables of numbers, as the run finds them: g, pow10, the digits; the text "0.0" -/
def p10 (j : Nat) : Value := .long (lN (10 ^ j))
def dOn (j : Nat) : Value := .int (nI (48 + j % 10))
def dTe (j : Nat) : Value := .int (nI (48 + j / 10))
def b00 (j : Nat) : Value := .int (if j = 1 then 46 else 48)
abbrev RMU : String := "jdk/internal/math/MathUtils"
def KJ (Γ : Gm) (U : State) : Prop :=
  (va_Z "java/lang/String" "COMPACT_STRINGS" "Z" (.int 1) (gA Γ) U (gO Γ) ∧ va_Z RMU "g" "[J" (.ref (gN Γ 0)) (gA Γ) U (gO Γ) ∧ va_Z RMU "pow10" "[J" (.ref (gN Γ 1)) (gA Γ) U (gO Γ) ∧ va_Z "java/lang/Integer" "DigitOnes" "[B" (.ref (gN Γ 2)) (gA Γ) U (gO Γ) ∧ va_Z "java/lang/Integer" "DigitTens" "[B" (.ref (gN Γ 3)) (gA Γ) U (gO Γ)) ∧
  (va_T .long (gN Γ 0) 1234 (gV Γ) (gA Γ) U (gO Γ) ∧ va_T .long (gN Γ 1) 18 p10 (gA Γ) U (gO Γ) ∧ va_T .byte (gN Γ 2) 100 dOn (gA Γ) U (gO Γ) ∧ va_T .byte (gN Γ 3) 100 dTe (gA Γ) U (gO Γ)) ∧
  (vk_R "jdk/internal/math/FloatToDecimal" 32 "0.0" (gN Γ 4) U ∧ va_O "java/lang/String" (gN Γ 4) (gA Γ) U (gO Γ) ∧ va_OF "java/lang/String" "coder" "B" (.int 0) (gN Γ 4) (gA Γ) U (gO Γ) ∧ va_OF "java/lang/String" "value" "[B" (.ref (gN Γ 5)) (gN Γ 4) (gA Γ) U (gO Γ) ∧ va_T .byte (gN Γ 5) 3 b00 (gA Γ) U (gO Γ)) ∧
  va_Fw "java/lang/StringBuilder" ⟨"java/lang/Appendable", "append", "(Ljava/lang/CharSequence;)Ljava/lang/Appendable;"⟩ yJ4_append_996db U
theorem KJ.moved {Γ : Gm} {s U : State} (hW : s.WarmedH U.vm) (h : KJ Γ s) : KJ Γ U := by
  obtain ⟨⟨z1, z2, z3, z4, z5⟩, ⟨t1, t2, t3, t4⟩, ⟨s1, s2, s3, s4, s5⟩, fw⟩ := h
  exact ⟨⟨z1.moved hW.alike, z2.moved hW.alike, z3.moved hW.alike, z4.moved hW.alike, z5.moved hW.alike⟩, ⟨t1.moved hW.alike, t2.moved hW.alike, t3.moved hW.alike, t4.moved hW.alike⟩, ⟨s1.warm hW, va_O.moved hW.alike s2, va_OF.moved hW.alike s3, va_OF.moved hW.alike s4, s5.moved hW.alike⟩, va_Fw.moved (by decide) hW.alike fw⟩
/-- what the tables and the lower heap hold, in every state of the run -/
def KK (Γ : Gm) (U : State) : Prop :=
  va_K (gD Γ) hcl (gT Γ) U ∧ (va_Z "java/util/ArrayList" "DEFAULTCAPACITY_EMPTY_ELEMENTDATA" "[Ljava/lang/Object;" (.ref (gE Γ)) (gA Γ) U (gO Γ) ∧ vx_Zq Bundle.tN "UNASSIGNED_STACK" Bundle.steD (gA Γ) U (gO Γ) ∧ vx_Zq Bundle.tN "SUPPRESSED_SENTINEL" Bundle.listD (gA Γ) U (gO Γ)) ∧
  ((∀ q ∈ zC, va_Nw (.castable q.1 q.2) U) ∧ (∀ y ∈ zD, va_Nw (.declares y) U) ∧ va_Nw zN U) ∧ (∀ q ∈ zS, ∃ a : Nat, vk_R q.1 q.2.1 q.2.2 a U) ∧ (∀ q ∈ zX, va_Nc q.1 q.2 U) ∧ (va_AO "TileWarden$Entry" U ∧ va_AO "java/lang/Object" U) ∧ va_Mi "[Ljava/lang/Object;" (gC Γ 6) U ∧ KJ Γ U
theorem KK.moved {Γ : Gm} {s U : State} (hW : s.WarmedH U.vm) (h : KK Γ s) : KK Γ U := by
  obtain ⟨h1, ⟨h2, h3, h4⟩, ⟨h5, h6, h7⟩, h8, h9, ⟨h10, h11⟩, h12, h13⟩ := h
  exact ⟨h1.moved hW.alike, ⟨h2.moved hW.alike, h3.moved hW.alike, h4.moved hW.alike⟩, ⟨fun q hq => (h5 q hq).warmC hW, fun y hy => (h6 y hy).warmD hW, h7.warmM hW⟩, fun q hq => (h8 q hq).imp fun a ha => ha.warm hW, fun q hq => (h9 q hq).moved hW.alike, ⟨h10.moved hW.alike, h11.moved hW.alike⟩, h12.moved hW.alike, h13.moved hW⟩
theorem KK.calling {Γ : Gm} {U : State} {g : JFrame} {mk : MethodId} {a : Array Value} (h : KK Γ U) : KK Γ (U.calling g mk a) := h.moved (State.WarmedH.refl U)
def hm_Pc (Γ : Gm) (As : List Value) (f : Hm) : Array Value → State → Prop := va_Pc As (fun U => hm_H Γ f U.heap ∧ hm_O Γ U.heap ∧ KK Γ U)
def hm_Q (Γ : Gm) (Post : Option Value → Hm → Prop) : Array Value → State → Outcome → State → Prop := fun _ st oc t => (∃ (v : Option Value) (f' : Hm), oc = .returned v ∧ Post v f' ∧ hm_H Γ f' t.heap) ∧ va_F (gA Γ) st t
def hm_X (Γ : Gm) (XP : String → Hm → Prop) : String → State → State → Prop := fun E st t => (∃ f' : Hm, XP E f' ∧ hm_H Γ f' t.heap) ∧ va_F (gA Γ) st t
theorem hm_blind {Γ : Gm} {As : List Value} {f : Hm} : FrameBlind (hm_Pc Γ As f) := fun _ _ _ _ q => ⟨q.1, q.2.1, q.2.2.1, q.2.2.2.calling⟩
abbrev rmk (k mc ms : Nat) : Room := { frames := 10 * k, cells := mc, slots := ms, locals := 200 * k }
abbrev wz (y : MethodName) (b : ByteArray) (n : Nat) (r : Option FieldType) : List Cond := .code y b n r :: lwG
/-- method y, called with As in the world f: it returns, and Post says what and the world behind it; level k of calls, at most mc cells of ms slots -/
def Ct (Γ : Gm) (l : Launch) (y : MethodName) (b : ByteArray) (n : Nat) (r : Option FieldType) (k mc ms : Nat) (As : List Value) (f : Hm) (Post : Option Value → Hm → Prop) : Prop :=
  Met l y (wz y b n r) (rmk k mc ms) (hm_Pc Γ As f) (hm_Q Γ Post) mc ms (gA Γ)
/-- .. or throws, and XP says of which class, and the world behind it -/
def Cx (Γ : Gm) (l : Launch) (y : MethodName) (b : ByteArray) (n : Nat) (r : Option FieldType) (k mc ms : Nat) (As : List Value) (f : Hm) (Post : Option Value → Hm → Prop) (XP : String → Hm → Prop) : Prop :=
  vx_Met l y (wz y b n r) (rmk k mc ms) (hm_Pc Γ As f) (hm_Q Γ Post) (hm_X Γ XP) mc ms (gA Γ)
theorem wz_good {y y' : MethodName} {b b' : ByteArray} {n n' : Nat} {r r' : Option FieldType} (h : Cond.code y' b' n' r' ∈ lwG) : GoodIn (wz y b n r) (wz y' b' n' r') := by
  intro w hw
  rcases List.mem_cons.mp hw with e | e
  · rw [e]; exact ⟨List.mem_cons_of_mem _ h, good_of_word (lwG_good h)⟩
  · exact ⟨List.mem_cons_of_mem _ e, good_of_word (lwG_good e)⟩
theorem wz_app {T ws pre : List Cond} (h : GoodIn (T) ws) (hp : ∀ w ∈ pre, w ∈ T ∧ goodWord w = true) : GoodIn T (pre ++ ws) := by
  intro w hw
  rcases List.mem_append.mp hw with e | e
  · exact ⟨(hp w e).1, good_of_word (hp w e).2⟩
  · exact h w e
section HR
variable {p : Program} {l : Launch} {e : Env} {R : Room} {s : State} {m : MethodId} {args : Array Value} {below : List Frame} {meth : Method} {c : Code} {H : Heap} {locs : List Loc} {cells slots : Nat} {Q : State → Prop}
variable {cc : ByteArray} {pc nL : Nat} {ls : Array Slot} {rest : List Value} {Γ : Gm} {f : Hm} {a : Nat} {H0 : Heap}
theorem Ct_of {y : MethodName} {n : Nat} {r : Option FieldType} {k mc ms : Nat} {As : List Value} {Post : Option Value → Hm → Prop} (hy : plainName y.cls = true) (hn : (lg_sl As).length ≤ n)
    (body : ∀ (p : Program) (e : Env) (s : State) (m : MethodId) (args : Array Value) (below : List Frame) (meth : Method) (c : Code), p.tables.exec = Jvm.exec → c.code = cc → meth.sig.returnType = r → c.maxLocals = n → s.vm.findClass y.cls = some m.cls → meth.name = y.name → meth.locks = false → (∀ w ∈ lwG, w.before args s = true) → hm_H Γ f s.heap → hm_O Γ s.heap → KK Γ s →
      ∀ ls : Array Slot, lv_has ls n (lv_args 0 As) → W p l e (rmk k mc ms) s m args below meth c s.heap [] 0 0 (MQ below (hm_Q Γ Post) args s mc ms (gA Γ)) (F0 m 0 ls [])) : Ct Γ l y cc n r k mc ms As f Post := by
  refine Met.ofW (cc := cc) (maxL := n) (ret := r) hy rfl ?_
  intro p e s m args below meth c s₁ B hml hv
  obtain ⟨rfl, hH, hO, hK⟩ := hv
  have hts := atoms_spec (ws := wz y cc n r) B.pre
  rw [lg_entry_eq]
  exact body p e s m _ below meth c B.exec B.bytes B.returns hml (findClass_of_methodNamed B.named) (name_of_methodNamed B.named B.method).1 B.notSynchronized (fun w hw => hts w (List.mem_cons_of_mem _ hw)) hH hO hK _ (lv_entry As hn)
theorem Cx_of {y : MethodName} {n : Nat} {r : Option FieldType} {k mc ms : Nat} {As : List Value} {Post : Option Value → Hm → Prop} {XP : String → Hm → Prop} (hy : plainName y.cls = true) (hn : (lg_sl As).length ≤ n)
    (body : ∀ (p : Program) (e : Env) (s : State) (m : MethodId) (args : Array Value) (below : List Frame) (meth : Method) (c : Code), p.tables.exec = Jvm.exec → c.code = cc → meth.sig.returnType = r → c.maxLocals = n → s.vm.findClass y.cls = some m.cls → meth.name = y.name → meth.locks = false → (∀ x ∈ c.exceptionTable.toList, False) → (∀ w ∈ lwG, w.before args s = true) → hm_H Γ f s.heap → hm_O Γ s.heap → KK Γ s →
      ∀ ls : Array Slot, lv_has ls n (lv_args 0 As) → W p l e (rmk k mc ms) s m args below meth c s.heap [] 0 0 (vx_MQ below (hm_Q Γ Post) (hm_X Γ XP) args s mc ms (gA Γ)) (F0 m 0 ls [])) : Cx Γ l y cc n r k mc ms As f Post XP := by
  refine vx_ofW (cc := cc) (maxL := n) (ret := r) hy rfl ?_
  intro p e s m args below meth c s₁ B hml ht hv
  obtain ⟨rfl, hH, hO, hK⟩ := hv
  have hts := atoms_spec (ws := wz y cc n r) B.pre
  rw [lg_entry_eq]
  exact body p e s m _ below meth c B.exec B.bytes B.returns hml (findClass_of_methodNamed B.named) (name_of_methodNamed B.named B.method).1 B.notSynchronized ht (fun w hw => hts w (List.mem_cons_of_mem _ hw)) hH hO hK _ (lv_entry As hn)
/-- a contract's end may say less -/
theorem Ct.imp {y : MethodName} {b : ByteArray} {n : Nat} {r : Option FieldType} {k mc ms : Nat} {As : List Value} {Post Post' : Option Value → Hm → Prop} (h : Ct Γ l y b n r k mc ms As f Post) (hp : ∀ v f', Post v f' → Post' v f') : Ct Γ l y b n r k mc ms As f Post' := by
  intro p e h1 h2 h3 s m args below h4 h5 h6 h7
  obtain ⟨kk, o, g1, g2, g3, ⟨⟨⟨v, f', q1, q2, q3⟩, q4⟩, q5⟩⟩ := h p e h1 h2 h3 s m args below h4 h5 h6 h7
  exact ⟨kk, o, g1, g2, g3, ⟨⟨⟨v, f', q1, hp v f' q2, q3⟩, q4⟩, q5⟩⟩
-- the end rows
theorem hm_iret {mc ms : Nat} {Post : Option Value → Hm → Prop} {v : Int32} (hx : p.tables.exec = Jvm.exec) (hb : c.code = cc) (hr : meth.sig.returnType = some .int) (hlocks : meth.locks = false) (hS : va_S (gA Γ) s.heap H locs) (hH : hm_H Γ f H) (hp : Post (some (.int v)) f) (hc : cells ≤ mc) (hs : slots ≤ ms) (hdg : decode cc pc = .ok (.ireturn, 1)) :
    W p l e R s m args below meth c H locs cells slots (MQ below (hm_Q Γ Post) args s mc ms (gA Γ)) (F0 m pc ls [.int v]) :=
  W.widen hc hs (W.iret hx hb hr (fun t ht hW => ⟨⟨_, f, rfl, hp, by rw [ht]; exact hH⟩, hS.F ht⟩) hS.2.2 hdg hlocks)
theorem hm_zret {mc ms : Nat} {Post : Option Value → Hm → Prop} {v : Int32} (hx : p.tables.exec = Jvm.exec) (hb : c.code = cc) (hr : meth.sig.returnType = some .boolean) (hn : narrow .boolean (.int v) = .int v) (hlocks : meth.locks = false) (hS : va_S (gA Γ) s.heap H locs) (hH : hm_H Γ f H) (hp : Post (some (.int v)) f) (hc : cells ≤ mc) (hs : slots ≤ ms) (hdg : decode cc pc = .ok (.ireturn, 1)) :
    W p l e R s m args below meth c H locs cells slots (MQ below (hm_Q Γ Post) args s mc ms (gA Γ)) (F0 m pc ls [.int v]) :=
  W.widen hc hs (W.zret hx hb hr hn (fun t ht hW => ⟨⟨_, f, rfl, hp, by rw [ht]; exact hH⟩, hS.F ht⟩) hS.2.2 hdg hlocks)
theorem hm_lret {mc ms : Nat} {Post : Option Value → Hm → Prop} {v : Int64} (hx : p.tables.exec = Jvm.exec) (hb : c.code = cc) (hr : meth.sig.returnType = some .long) (hlocks : meth.locks = false) (hS : va_S (gA Γ) s.heap H locs) (hH : hm_H Γ f H) (hp : Post (some (.long v)) f) (hc : cells ≤ mc) (hs : slots ≤ ms) (hdg : decode cc pc = .ok (.lreturn, 1)) :
    W p l e R s m args below meth c H locs cells slots (MQ below (hm_Q Γ Post) args s mc ms (gA Γ)) (F0 m pc ls [.long v]) :=
  W.widen hc hs (W.lret hx hb hr (fun t ht hW => ⟨⟨_, f, rfl, hp, by rw [ht]; exact hH⟩, hS.F ht⟩) hS.2.2 hdg hlocks)
theorem hm_aret {mc ms : Nat} {Post : Option Value → Hm → Prop} {v : Value} {rt : FieldType} (hx : p.tables.exec = Jvm.exec) (hb : c.code = cc) (hr : meth.sig.returnType = some rt) (hrt : (∃ n, rt = .object n) ∨ ∃ t, rt = .array t) (hv : v = .null ∨ ∃ a, v = .ref a) (hlocks : meth.locks = false) (hS : va_S (gA Γ) s.heap H locs) (hH : hm_H Γ f H) (hp : Post (some v) f) (hc : cells ≤ mc) (hs : slots ≤ ms) (hdg : decode cc pc = .ok (.areturn, 1)) :
    W p l e R s m args below meth c H locs cells slots (MQ below (hm_Q Γ Post) args s mc ms (gA Γ)) (F0 m pc ls [v]) :=
  W.widen hc hs (W.aret hx hb hr hrt hv (fun t ht hW => ⟨⟨_, f, rfl, hp, by rw [ht]; exact hH⟩, hS.F ht⟩) hS.2.2 hdg hlocks)
theorem hm_vret {mc ms : Nat} {Post : Option Value → Hm → Prop} (hx : p.tables.exec = Jvm.exec) (hb : c.code = cc) (hr : meth.sig.returnType = none) (hlocks : meth.locks = false) (hS : va_S (gA Γ) s.heap H locs) (hH : hm_H Γ f H) (hp : Post none f) (hc : cells ≤ mc) (hs : slots ≤ ms) (hdg : decode cc pc = .ok (.return_, 1)) :
    W p l e R s m args below meth c H locs cells slots (MQ below (hm_Q Γ Post) args s mc ms (gA Γ)) (F0 m pc ls []) :=
  W.widen hc hs (W.vret hx hb hr (fun t ht hW => ⟨⟨_, f, rfl, hp, by rw [ht]; exact hH⟩, hS.F ht⟩) hS.2.2 hdg hlocks)
-- reads
theorem hm_get (hx : p.tables.exec = Jvm.exec) (hb : c.code = cc) {own ref C : String} {T : u_T} {N ci index : Nat} {Ts : List Cond} (hts : ∀ w ∈ Ts, w.before args s = true) (hin : ∀ w ∈ u_ws C T N, w ∈ Ts) (hown : s.vm.findClass own = some m.cls) (hK : KK Γ s) (hH : hm_H Γ f H) {fs : List Value} (ha : f a = some (eR ci fs)) (hc : hcl[ci]? = some (C, T, N)) (k : Nat) (hk : k < N) (hlink : (Cond.fieldLink own index ref (T k).2.1 (T k).2.2.1).before args s = true) (hsame : ∀ x, s.fieldFound? (T k).1 (T k).2.1 (T k).2.2.1 = some x → s.fieldFound? ref (T k).2.1 (T k).2.2.1 = some x) {v : Value} (hv : fs[k]? = some v) (hdg : decode cc pc = .ok (.getfield index, 3))
    (kk : W p l e R s m args below meth c H locs cells slots Q (F0 m (pc + 3) ls (v :: rest))) : W p l e R s m args below meth c H locs cells slots Q (F0 m pc ls (.ref a :: rest)) :=
  va_get hx hb hts hin hown hK.1 (hm_one hH ha (by intro z; cases z)) 0 rfl hc k hk hlink hsame hv hdg kk
theorem hm_bald (hx : p.tables.exec = Jvm.exec) (hb : c.code = cc) (hK : KK Γ s) (hH : hm_H Γ f H) {n : Nat} {g : Nat → Int32} (ha : f a = some (eB Γ n g)) {i : Int32} (hin : vp_in i n) (hdg : decode cc pc = .ok (.baload, 1))
    (kk : W p l e R s m args below meth c H locs cells slots Q (F0 m (pc + 1) ls (.int (g i.toNatClampNeg) :: rest))) : W p l e R s m args below meth c H locs cells slots Q (F0 m pc ls (.int i :: .ref a :: rest)) :=
  va_bald hx hb hK.1 (hm_one hH ha (fun z => by injection z with z; have z2 := congrArg (fun x : ClassId × vp_A => x.2.2) z; cases z2)) 0 0 rfl rfl hin hdg kk
theorem hm_cald (hx : p.tables.exec = Jvm.exec) (hb : c.code = cc) (hK : KK Γ s) (hH : hm_H Γ f H) {n : Nat} {g : Nat → Int32} (ha : f a = some (eK Γ n g)) {i : Int32} (hin : vp_in i n) (hdg : decode cc pc = .ok (.caload, 1))
    (kk : W p l e R s m args below meth c H locs cells slots Q (F0 m (pc + 1) ls (.int (g i.toNatClampNeg) :: rest))) : W p l e R s m args below meth c H locs cells slots Q (F0 m pc ls (.int i :: .ref a :: rest)) :=
  va_cald hx hb hK.1 (hm_one hH ha (fun z => by injection z with z; have z2 := congrArg (fun x : ClassId × vp_A => x.2.2) z; cases z2)) 0 2 rfl rfl hin hdg kk
theorem hm_naldE (hx : p.tables.exec = Jvm.exec) (hb : c.code = cc) (hK : KK Γ s) (hH : hm_H Γ f H) {n : Nat} {g : Nat → Option Nat} (ha : f a = some (eN Γ n g)) {i : Int32} (hin : vp_in i n) (hdg : decode cc pc = .ok (.aaload, 1))
    (kk : W p l e R s m args below meth c H locs cells slots Q (F0 m (pc + 1) ls (va_rf (g i.toNatClampNeg) :: rest))) : W p l e R s m args below meth c H locs cells slots Q (F0 m pc ls (.int i :: .ref a :: rest)) :=
  va_aldq hx hb hK.1 (hm_one hH ha (fun z => by injection z with z; have z2 := congrArg (fun x : ClassId × vp_A => x.2.1) z; exact hin (Or.inr (by rw [show n = 0 from z2]; exact Nat.zero_le _)))) 0 3 rfl rfl hin hdg kk
theorem hm_naldO (hx : p.tables.exec = Jvm.exec) (hb : c.code = cc) (hK : KK Γ s) (hH : hm_H Γ f H) {n : Nat} {g : Nat → Option Nat} (ha : f a = some (eO Γ n g)) {i : Int32} (hin : vp_in i n) (hdg : decode cc pc = .ok (.aaload, 1))
    (kk : W p l e R s m args below meth c H locs cells slots Q (F0 m (pc + 1) ls (va_rf (g i.toNatClampNeg) :: rest))) : W p l e R s m args below meth c H locs cells slots Q (F0 m pc ls (.int i :: .ref a :: rest)) :=
  va_aldq hx hb hK.1 (hm_one hH ha (fun z => by injection z with z; have z2 := congrArg (fun x : ClassId × vp_A => x.2.1) z; exact hin (Or.inr (by rw [show n = 0 from z2]; exact Nat.zero_le _)))) 0 4 rfl rfl hin hdg kk
theorem hm_alen (hx : p.tables.exec = Jvm.exec) (hb : c.code = cc) (hK : KK Γ s) (hH : hm_H Γ f H) (t0 : Nat) {cA : ClassId} {x : vp_A} (ha : f a = some (.inl (cA, x))) {ty : FieldType} (ht : (gT Γ)[t0]? = some (cA, ty)) {v : Int32} (hv : Int32.ofNat x.1 = v) (hdg : decode cc pc = .ok (.arraylength, 1))
    (kk : W p l e R s m args below meth c H locs cells slots Q (F0 m (pc + 1) ls (.int v :: rest))) : W p l e R s m args below meth c H locs cells slots Q (F0 m pc ls (.ref a :: rest)) :=
  by
  by_cases ea : a = gE Γ
  · obtain ⟨ce, h1, h2, h3, h4⟩ := (hH.1 a _ ha).1.2 ea
    rw [ea, hH.2.1] at ha
    injection ha with ha
    injection ha with ha
    have e1 : gC Γ 4 = cA := congrArg (fun x : ClassId × vp_A => x.1) ha
    have e2 : 0 = x.1 := congrArg (fun x : ClassId × vp_A => x.2.1) ha
    obtain ⟨-, k, hk, comp, hc⟩ := (hK.1.2 t0 _ ht).1 0 (fun _ => Value.null)
    exact W.alen (n := v) hx hb h1 ⟨fun k z => (by rw [z] at h3; cases h3), k, (by rw [h2, e1]; exact hk), comp, hc⟩ (show ce.slots.size.toInt32 = v from by rw [h4, ← hv, ← e2] <;> rfl) rfl rfl hdg kk
  · have hP : va_P (gD Γ) hcl [(a, .inl (cA, x))] H := by
      intro k q hk
      have hz : k < 1 := (List.getElem?_eq_some_iff.mp hk).1
      have h0 : k = 0 := by omega
      subst h0
      cases hk
      exact (hH.1 a _ ha).1.1 ea
    exact va_alen hx hb hK.1 hP 0 t0 rfl ht hv hdg kk
-- writes
theorem hm_put (hx : p.tables.exec = Jvm.exec) (hb : c.code = cc) {own ref C : String} {T : u_T} {N ci index : Nat} {Ts : List Cond} (hts : ∀ w ∈ Ts, w.before args s = true) (hin : ∀ w ∈ u_ws C T N, w ∈ Ts) (ty0 : Nat → FieldType) (hty : ∀ k, k < N → parseFieldDescriptor (T k).2.2.1 = some (ty0 k)) (hnm : ∀ a, a < N → ∀ b, b < N → a ≠ b → (T a).2.1 ≠ (T b).2.1) (hown : s.vm.findClass own = some m.cls) (hK : KK Γ s) (hO : hm_O Γ s.heap) (hS : va_S (gA Γ) s.heap H locs) (hH : hm_H Γ f H) {fs : List Value} (ha : f a = some (eR ci fs)) (hc : hcl[ci]? = some (C, T, N)) (k : Nat) (hk : k < N) (hlink : (Cond.fieldLink own index ref (T k).2.1 (T k).2.2.1).before args s = true) (hsame : ∀ x, s.fieldFound? (T k).1 (T k).2.1 (T k).2.2.1 = some x → s.fieldFound? ref (T k).2.1 (T k).2.2.1 = some x) (hfin : (T k).2.2.2 = false) {ty : FieldType} {v : Value} (hd : parseFieldDescriptor (T k).2.2.1 = some ty) (hn : narrow ty v = v) (hfit : fits ty v = true) (hl : k < fs.length)
    (hdg : decode cc pc = .ok (.putfield index, 3)) (kk : ∀ (H1 : Heap) (locs1 : List Loc), hm_H Γ (hm_up f a (eR ci (fs.set k v))) H1 → va_S (gA Γ) s.heap H1 locs1 → W p l e R s m args below meth c H1 locs1 cells slots Q (F0 m (pc + 3) ls rest)) : W p l e R s m args below meth c H locs cells slots Q (F0 m pc ls (v :: .ref a :: rest)) := by
  obtain ⟨q, hq⟩ := hm_ws_at hH ha (hm_ge hH ha)
  exact va_put hx hb hts hin ty0 hty hnm hown hK.1 (hm_ws_P hH) hm_ws_D hS q hq hc k hk hlink hsame hfin hd hn hfit hl hdg (fun H1 locs1 hP1 _ hS1 => kk H1 locs1 (hm_ws_set hH hO hS hq hP1 hS1) hS1)
theorem hm_putF (hx : p.tables.exec = Jvm.exec) (hb : c.code = cc) {own ref C : String} {T : u_T} {N ci index : Nat} {Ts : List Cond} (hts : ∀ w ∈ Ts, w.before args s = true) (hin : ∀ w ∈ u_ws C T N, w ∈ Ts) (ty0 : Nat → FieldType) (hty : ∀ k, k < N → parseFieldDescriptor (T k).2.2.1 = some (ty0 k)) (hnm : ∀ a, a < N → ∀ b, b < N → a ≠ b → (T a).2.1 ≠ (T b).2.1) (hown : s.vm.findClass own = some m.cls) (hK : KK Γ s) (hO : hm_O Γ s.heap) (hS : va_S (gA Γ) s.heap H locs) (hH : hm_H Γ f H) {fs : List Value} (ha : f a = some (eR ci fs)) (hc : hcl[ci]? = some (C, T, N)) (k : Nat) (hk : k < N) (hlink : (Cond.fieldLink own index ref (T k).2.1 (T k).2.2.1).before args s = true) (hsame : ∀ x, s.fieldFound? (T k).1 (T k).2.1 (T k).2.2.1 = some x → s.fieldFound? ref (T k).2.1 (T k).2.2.1 = some x) (hfin : (T k).2.2.2 = true) (hin2 : meth.name = "<init>") (hdecl : (T k).1 = own) {ty : FieldType} {v : Value} (hd : parseFieldDescriptor (T k).2.2.1 = some ty) (hn : narrow ty v = v) (hfit : fits ty v = true) (hl : k < fs.length)
    (hdg : decode cc pc = .ok (.putfield index, 3)) (kk : ∀ (H1 : Heap) (locs1 : List Loc), hm_H Γ (hm_up f a (eR ci (fs.set k v))) H1 → va_S (gA Γ) s.heap H1 locs1 → W p l e R s m args below meth c H1 locs1 cells slots Q (F0 m (pc + 3) ls rest)) : W p l e R s m args below meth c H locs cells slots Q (F0 m pc ls (v :: .ref a :: rest)) := by
  obtain ⟨q, hq⟩ := hm_ws_at hH ha (hm_ge hH ha)
  exact va_putF hx hb hts hin ty0 hty hnm hown hK.1 (hm_ws_P hH) hm_ws_D hS q hq hc k hk hlink hsame hfin hin2 hdecl hd hn hfit hl hdg (fun H1 locs1 hP1 _ hS1 => kk H1 locs1 (hm_ws_set hH hO hS hq hP1 hS1) hS1)
theorem hm_gn {n : Nat} {cA : ClassId} {x : (Nat → Int32) ⊕ (Nat → Int64) ⊕ (Nat → UInt32) ⊕ (Nat → UInt64) ⊕ (Nat → Option Nat)} (hH : hm_H Γ f H) (ha : f a = some (.inl (cA, n, x))) {i : Int32} (hin : vp_in i n) : gB Γ ≤ a := by
  rcases (hH.1 a _ ha).2 with q | q
  · rw [q, hH.2.1] at ha
    cases ha
    exact absurd (Or.inr (Nat.zero_le _)) hin
  · exact q
theorem hm_bast (hx : p.tables.exec = Jvm.exec) (hb : c.code = cc) (hK : KK Γ s) (hO : hm_O Γ s.heap) (hS : va_S (gA Γ) s.heap H locs) (hH : hm_H Γ f H) {n : Nat} {g : Nat → Int32} (ha : f a = some (eB Γ n g)) {i : Int32} {x : Int32} (hin : vp_in i n) (hdg : decode cc pc = .ok (.bastore, 1))
    (kk : ∀ (H1 : Heap) (locs1 : List Loc), hm_H Γ (hm_up f a (eB Γ n (upd g i.toNatClampNeg (vp_nar .byte x)))) H1 → va_S (gA Γ) s.heap H1 locs1 → W p l e R s m args below meth c H1 locs1 cells slots Q (F0 m (pc + 1) ls rest)) : W p l e R s m args below meth c H locs cells slots Q (F0 m pc ls (.int x :: .int i :: .ref a :: rest)) := by
  obtain ⟨q, hq⟩ := hm_ws_at hH ha (hm_gn hH ha hin)
  exact va_bast hx hb hK.1 (hm_ws_P hH) hm_ws_D hS q 0 hq rfl hin hdg (fun H1 locs1 hP1 _ hS1 => kk H1 locs1 (hm_ws_set hH hO hS hq hP1 hS1) hS1)
theorem hm_cast (hx : p.tables.exec = Jvm.exec) (hb : c.code = cc) (hK : KK Γ s) (hO : hm_O Γ s.heap) (hS : va_S (gA Γ) s.heap H locs) (hH : hm_H Γ f H) {n : Nat} {g : Nat → Int32} (ha : f a = some (eK Γ n g)) {i : Int32} {x : Int32} (hin : vp_in i n) (hdg : decode cc pc = .ok (.castore, 1))
    (kk : ∀ (H1 : Heap) (locs1 : List Loc), hm_H Γ (hm_up f a (eK Γ n (upd g i.toNatClampNeg (vp_nar .char x)))) H1 → va_S (gA Γ) s.heap H1 locs1 → W p l e R s m args below meth c H1 locs1 cells slots Q (F0 m (pc + 1) ls rest)) : W p l e R s m args below meth c H locs cells slots Q (F0 m pc ls (.int x :: .int i :: .ref a :: rest)) := by
  obtain ⟨q, hq⟩ := hm_ws_at hH ha (hm_gn hH ha hin)
  exact va_cast hx hb hK.1 (hm_ws_P hH) hm_ws_D hS q 2 hq rfl hin hdg (fun H1 locs1 hP1 _ hS1 => kk H1 locs1 (hm_ws_set hH hO hS hq hP1 hS1) hS1)
theorem hm_call {Post : Option Value → Hm → Prop} {mc ms : Nat} {st0 : List Value} {aa : Array Value} (hr : va_Run p l e R s m args below meth c H locs cells slots mc ms (F0 m pc ls st0) rest (hm_Q Γ Post aa) (gA Γ)) (hS : va_S (gA Γ) H0 H locs)
    (kk : ∀ (v : Option Value) (f' : Hm) (H1 : Heap) (locs1 : List Loc), Post v f' → hm_H Γ f' H1 → va_S (gA Γ) H0 H1 locs1 → W p l e R s m args below meth c H1 locs1 (cells + mc) (slots + ms) Q (F0 m (pc + 3) ls (v.toList ++ rest))) : W p l e R s m args below meth c H locs cells slots Q (F0 m pc ls st0) := by
  intro T hT X
  obtain ⟨v, st₀, t, T', L, h0, X', hL, e1, e2, ⟨⟨v', f', hv, hp, hh⟩, hF⟩, st⟩ := hr T hT X
  cases hv
  obtain ⟨k1, k2, k3⟩ := vx_keep h0 e1 hS (fun _ _ h => h) (fun _ h => h) hL hF
  obtain ⟨t2, a1, b1⟩ := kk v f' T'.heap (locs ++ L) hp (by rw [e1]; exact hh) k3 T' rfl X'
  exact ⟨t2, st t2 a1, b1⟩
theorem hm_pre {As : List Value} (hK : KK Γ s) (hO : hm_O Γ s.heap) (hS : va_S (gA Γ) s.heap H locs) (hH : hm_H Γ f H) : PreS s H (hm_Pc Γ As f) As :=
  ⟨hm_blind, fun U hU hW => ⟨rfl, by rw [hU]; exact hH, by rw [hU]; exact hO.step hS, hK.moved hW⟩⟩
theorem hm_preV {As : List Value} {ci : Nat} {C : String} {T : u_T} {N : Nat} {fs : List Value} (hK : KK Γ s) (hO : hm_O Γ s.heap) (hS : va_S (gA Γ) s.heap H locs) (hH : hm_H Γ f H) (ha : f a = some (eR ci fs)) (hc : hcl[ci]? = some (C, T, N)) : PreV s H C a (hm_Pc Γ (.ref a :: As) f) As :=
  ⟨hm_blind, va_recv (ws := [(a, .inr (ci, fs))]) (q0 := 0) hK.1 (hm_one hH ha (by intro z; cases z)) hc rfl, fun U hU hW => ⟨rfl, by rw [hU]; exact hH, by rw [hU]; exact hO.step hS, hK.moved hW⟩⟩
/-- what a call asks of names and words; decided row by row -/
abbrev hm_nm (y : MethodName) (n : Nat) : Prop := y.cls ≠ "java/lang/invoke/MethodHandle" ∧ y.cls ≠ "java/lang/invoke/VarHandle" ∧ (parseMethodDescriptor y.desc).map (fun d => d.parameters.length) = some n
theorem hm_callS {own : String} {index n nA k mc ms : Nat} {y : MethodName} {b : ByteArray} {r : Option FieldType} {As : List Value} {Post : Option Value → Hm → Prop} (hm1 : Cond.methodLink own index y ∈ lwG) (hm2 : Cond.static y ∈ lwG) (hm3 : Cond.initialized y.cls ∈ lwG) (hm4 : Cond.code y b n r ∈ lwG) (hn : hm_nm y nA) (hnA : As.length = nA)
    (hx : p.tables.exec = Jvm.exec) (hb : c.code = cc) (hml : c.maxLocals = nL) (hown : s.vm.findClass own = some m.cls) (hts : ∀ w ∈ lwG, w.before args s = true) (hK : KK Γ s) (hO : hm_O Γ s.heap) (hS : va_S (gA Γ) s.heap H locs) (hH : hm_H Γ f H) (hsz : ls.size = nL)
    (hM : Ct Γ l y b n r k mc ms As f Post) (hR : 10 * k + 1 ≤ R.frames ∧ 8 + (n + 11) + 200 * k ≤ R.locals) (hf : cells + mc ≤ R.cells ∧ slots + ms ≤ R.slots) {st0 : List Value} (hst : st0 = As.reverse ++ rest) (hW : (rest.map fun v => v.category).sum ≤ 8) (hdg : decode cc pc = .ok (.invokestatic index, 3))
    (kk : ∀ (v : Option Value) (f' : Hm) (H1 : Heap) (locs1 : List Loc), Post v f' → hm_H Γ f' H1 → va_S (gA Γ) s.heap H1 locs1 → W p l e R s m args below meth c H1 locs1 (cells + mc) (slots + ms) Q (F0 m (pc + 3) ls (v.toList ++ rest))) : W p l e R s m args below meth c H locs cells slots Q (F0 m pc ls st0) := by
  have cw : CallB R s args own index y b n r (wz y b n r) (rmk k mc ms) mc ms nA ∧ (Cond.static y).before args s = true := by
    have hG : GoodIn lwG (wz y b n r) := by
      intro w hw
      rcases List.mem_cons.mp hw with q | q
      · rw [q]; exact ⟨hm4, good_of_word (lwG_good hm4)⟩
      · exact ⟨q, good_of_word (lwG_good q)⟩
    exact ⟨callB_of nA hts hG rfl rfl rfl (hts _ hm3) (hts _ hm1) hn hR, hts _ hm2⟩
  exact hm_call (va_runS ⟨hx, hb, hml, hown, hts⟩ hM cw (hm_pre hK hO hS hH) rfl hnA hsz hst (lv_room (pc := pc) (ls := ls) (m := m) (rest := rest) hW) hdg hf) hS kk
theorem hm_callI {own : String} {index n nA k mc ms : Nat} {y : MethodName} {b : ByteArray} {As : List Value} {Post : Option Value → Hm → Prop} (hm1 : Cond.methodLink own index y ∈ lwG) (hm2 : Cond.instanceMethod y ∈ lwG) (hm3 : Cond.initialized y.cls ∈ lwG) (hm4 : Cond.code y b n none ∈ lwG) (hn : hm_nm y nA) (hy1 : y.name = "<init>") (hnA : As.length = nA)
    (hx : p.tables.exec = Jvm.exec) (hb : c.code = cc) (hml : c.maxLocals = nL) (hown : s.vm.findClass own = some m.cls) (hts : ∀ w ∈ lwG, w.before args s = true) (hK : KK Γ s) (hO : hm_O Γ s.heap) (hS : va_S (gA Γ) s.heap H locs) (hH : hm_H Γ f H) (hsz : ls.size = nL)
    (hM : Ct Γ l y b n none k mc ms (.ref a :: As) f Post) (hR : 10 * k + 1 ≤ R.frames ∧ 8 + (n + 11) + 200 * k ≤ R.locals) (hf : cells + mc ≤ R.cells ∧ slots + ms ≤ R.slots) {st0 : List Value} (hst : st0 = As.reverse ++ .ref a :: rest) (hW : (rest.map fun v => v.category).sum ≤ 8) (hdg : decode cc pc = .ok (.invokespecial index, 3))
    (kk : ∀ (v : Option Value) (f' : Hm) (H1 : Heap) (locs1 : List Loc), Post v f' → hm_H Γ f' H1 → va_S (gA Γ) s.heap H1 locs1 → W p l e R s m args below meth c H1 locs1 (cells + mc) (slots + ms) Q (F0 m (pc + 3) ls (v.toList ++ rest))) : W p l e R s m args below meth c H locs cells slots Q (F0 m pc ls st0) := by
  have hG : GoodIn lwG (wz y b n none) := by
    intro w hw
    rcases List.mem_cons.mp hw with q | q
    · rw [q]; exact ⟨hm4, good_of_word (lwG_good hm4)⟩
    · exact ⟨q, good_of_word (lwG_good q)⟩
  exact hm_call (va_runI ⟨hx, hb, hml, hown, hts⟩ hM (cwI nA hts hG rfl rfl rfl (hts _ hm3) (hts _ hm1) (hts _ hm2) hy1 hn hR) (hm_pre hK hO hS hH) rfl hnA hsz hst (lv_room (pc := pc) (ls := ls) (m := m) (rest := rest) hW) hdg hf) hS kk
theorem hm_callV {own C : String} {T : u_T} {N ci : Nat} {fs : List Value} {index n nA k mc ms : Nat} {y : MethodName} {b : ByteArray} {r : Option FieldType} {As : List Value} {Post : Option Value → Hm → Prop} (hm1 : Cond.methodLink own index y ∈ lwG) (hm2 : Cond.instanceMethod y ∈ lwG) (hm3 : Cond.initialized y.cls ∈ lwG) (hm4 : Cond.code y b n r ∈ lwG) (hm5 : Cond.selects C y y ∈ lwG) (hc : hcl[ci]? = some (C, T, N)) (hn : hm_nm y nA) (hnA : As.length = nA)
    (hx : p.tables.exec = Jvm.exec) (hb : c.code = cc) (hml : c.maxLocals = nL) (hown : s.vm.findClass own = some m.cls) (hts : ∀ w ∈ lwG, w.before args s = true) (hK : KK Γ s) (hO : hm_O Γ s.heap) (hS : va_S (gA Γ) s.heap H locs) (hH : hm_H Γ f H) (hsz : ls.size = nL) (ha : f a = some (eR ci fs))
    (hM : Ct Γ l y b n r k mc ms (.ref a :: As) f Post) (hR : 10 * k + 1 ≤ R.frames ∧ 8 + (n + 11) + 200 * k ≤ R.locals) (hf : cells + mc ≤ R.cells ∧ slots + ms ≤ R.slots) {st0 : List Value} (hst : st0 = As.reverse ++ .ref a :: rest) (hW : (rest.map fun v => v.category).sum ≤ 8) (hdg : decode cc pc = .ok (.invokevirtual index, 3))
    (kk : ∀ (v : Option Value) (f' : Hm) (H1 : Heap) (locs1 : List Loc), Post v f' → hm_H Γ f' H1 → va_S (gA Γ) s.heap H1 locs1 → W p l e R s m args below meth c H1 locs1 (cells + mc) (slots + ms) Q (F0 m (pc + 3) ls (v.toList ++ rest))) : W p l e R s m args below meth c H locs cells slots Q (F0 m pc ls st0) := by
  have hG : GoodIn lwG (wz y b n r) := by
    intro w hw
    rcases List.mem_cons.mp hw with q | q
    · rw [q]; exact ⟨hm4, good_of_word (lwG_good hm4)⟩
    · exact ⟨q, good_of_word (lwG_good q)⟩
  exact hm_call (va_runV ⟨hx, hb, hml, hown, hts⟩ hM ⟨callB_of nA hts hG rfl rfl rfl (hts _ hm3) (hts _ hm1) hn hR, hts _ hm2, hts _ hm5⟩ (hm_preV hK hO hS hH ha hc) rfl hnA hsz hst (lv_room (pc := pc) (ls := ls) (m := m) (rest := rest) hW) hdg hf) hS kk
end HR
