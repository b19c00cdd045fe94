/-! rows of what makes cells, of arrays of references, of copies, casts, mirrors and statics, over the closed world -/
theorem hm_A {Γ : Gm} {H : Heap} (h : hm_O Γ H) : ∀ q : Nat, H.size ≤ q → gA Γ q := fun _ hq => Nat.le_trans h.1 hq
theorem hm_RAn {U : State} {cA : ClassId} {ty : FieldType} (h : va_RA U cA ty) : U.vm.findClass ("[" ++ ty.toString) = some cA := by
  cases ty with
  | object C => obtain ⟨_, _, _, _, _, h⟩ := h; exact h
  | _ => exact h
theorem hm_cA {D : va_G} {cl : List vw_C} {tys : List (ClassId × FieldType)} {U : State} {cA cB : ClassId} {ty : FieldType} {k : Nat} (h : va_K D cl (tys ++ [(cA, ty)]) U) (hk : tys[k]? = some (cB, ty)) : cA = cB := by
  have hl := (List.getElem?_eq_some_iff.mp hk).1
  have h1 := hm_RAn (h.2 k (cB, ty) (by rw [List.getElem?_append_left hl]; exact hk)).2
  have h2 := hm_RAn (h.2 tys.length (cA, ty) (by rw [List.getElem?_append_right (Nat.le_refl _), Nat.sub_self]; rfl)).2
  exact Option.some.inj (h2.symm.trans h1)
theorem hm_Zat {C n d : String} {v : Value} {Γ : Gm} {U : State} {H : Heap} (h : va_Z C n d v (gA Γ) U (gO Γ)) (hO : hm_O Γ H) : va_Z C n d v (gA Γ) U H := by
  obtain ⟨cf, kf, fi, f, a, cell, h1, h2, h3, h4, h5, h6, h7, h8⟩ := h
  exact ⟨cf, kf, fi, f, a, cell, h1, h2, h3, h4, (hO.2 a (Nat.not_le.mp h8)).trans h5, h6, h7, h8⟩
section HR2
variable {p : Program} {l : Launch} {e : Env} {R : Room} {s : State} {m : MethodId} {args : Array Value} {below : List Frame} {meth : Method} {c : Code} {H : Heap} {locs : List Loc} {cells slots : Nat} {Q : State → Prop}
variable {cc : ByteArray} {pc nL : Nat} {ls : Array Slot} {rest : List Value} {Γ : Gm} {f : Hm} {a : Nat}
theorem hm_new (hx : p.tables.exec = Jvm.exec) (hb : c.code = cc) {own C : String} {T : u_T} {N ci index : Nat} (hts : ∀ w ∈ lwG, w.before args s = true) (hin : ∀ w ∈ u_ws C T N, w ∈ lwG) (ty : Nat → FieldType) (hty : ∀ k, k < N → parseFieldDescriptor (T k).2.2.1 = some (ty k)) (hown : s.vm.findClass own = some m.cls) (h1 : Cond.classLink own index C ∈ lwG) (h2 : Cond.instantiable C N ∈ lwG) (h3 : Cond.initialized C ∈ lwG)
    (hK : KK Γ s) (hO : hm_O Γ s.heap) (hS : va_S (gA Γ) s.heap H locs) (hH : hm_H Γ f H) (hc : hcl[ci]? = some (C, T, N)) {fs : List Value} (hfs : ∀ j, j < N → defaultValue (ty j) = vp_V fs j) (hcells : cells + 1 ≤ R.cells) (hslots : slots + N ≤ R.slots) (hdg : decode cc pc = .ok (.new index, 3))
    (kk : ∀ (q : Nat) (H1 : Heap), hm_H Γ (hm_up f q (eR ci fs)) H1 → f q = none → gB Γ ≤ q → va_S (gA Γ) s.heap H1 locs → W p l e R s m args below meth c H1 locs (cells + 1) (slots + N) Q (F0 m (pc + 3) ls (.ref q :: rest))) : W p l e R s m args below meth c H locs cells slots Q (F0 m pc ls rest) :=
  va_new hx hb hts hin ty hty hown (hts _ h1) (hts _ h2) (hts _ h3) hK.1 (hm_ws_P hH) hm_ws_D hS (hm_A hO) hc hfs hcells hslots hdg (fun q H1 hP1 hD1 hS1 => by
    obtain ⟨g1, g2, g3⟩ := hm_ws_app hH hO hS hP1 hD1 hS1
    exact kk q H1 g1 g2 g3 hS1)
theorem hm_newB (hx : p.tables.exec = Jvm.exec) (hb : c.code = cc) (hts : ∀ w ∈ lwG, w.before args s = true) (hK : KK Γ s) (hO : hm_O Γ s.heap) (hS : va_S (gA Γ) s.heap H locs) (hH : hm_H Γ f H) {n : Int32} {N' : Nat} (hn : ¬ n < 0) (hN : n.toNatClampNeg = N') (hbytes : N' * 1 ≤ 536870912) (hcells : cells + 1 ≤ R.cells) (hslots : slots + N' ≤ R.slots) (hdg : decode cc pc = .ok (.newarray .byte, 2))
    (kk : ∀ (q : Nat) (H1 : Heap), hm_H Γ (hm_up f q (eB Γ N' (fun _ => 0))) H1 → f q = none → gB Γ ≤ q → va_S (gA Γ) s.heap H1 locs → W p l e R s m args below meth c H1 locs (cells + 1) (slots + N') Q (F0 m (pc + 2) ls (.ref q :: rest))) : W p l e R s m args below meth c H locs cells slots Q (F0 m pc ls (.int n :: rest)) :=
  va_newa hx hb (atype := .byte) (ty := .byte) (a0 := (N', .inl (fun _ => 0))) (hts _ q2_79) rfl hK.1 (hm_ws_P hH) hm_ws_D hS (hm_A hO) (fun _ => rfl) hn hN hbytes hcells hslots hdg (fun q cA H1 hKK hP1 hD1 hS1 => by
    cases hm_cA (k := 0) hKK rfl
    obtain ⟨g1, g2, g3⟩ := hm_ws_app hH hO hS hP1 hD1 hS1
    exact kk q H1 g1 g2 g3 hS1)
theorem hm_newK (hx : p.tables.exec = Jvm.exec) (hb : c.code = cc) (hts : ∀ w ∈ lwG, w.before args s = true) (hK : KK Γ s) (hO : hm_O Γ s.heap) (hS : va_S (gA Γ) s.heap H locs) (hH : hm_H Γ f H) {n : Int32} {N' : Nat} (hn : ¬ n < 0) (hN : n.toNatClampNeg = N') (hbytes : N' * 2 ≤ 536870912) (hcells : cells + 1 ≤ R.cells) (hslots : slots + N' ≤ R.slots) (hdg : decode cc pc = .ok (.newarray .char, 2))
    (kk : ∀ (q : Nat) (H1 : Heap), hm_H Γ (hm_up f q (eK Γ N' (fun _ => 0))) H1 → f q = none → gB Γ ≤ q → va_S (gA Γ) s.heap H1 locs → W p l e R s m args below meth c H1 locs (cells + 1) (slots + N') Q (F0 m (pc + 2) ls (.ref q :: rest))) : W p l e R s m args below meth c H locs cells slots Q (F0 m pc ls (.int n :: rest)) :=
  va_newa hx hb (atype := .char) (ty := .char) (a0 := (N', .inl (fun _ => 0))) (hts _ q6_221) rfl hK.1 (hm_ws_P hH) hm_ws_D hS (hm_A hO) (fun _ => rfl) hn hN hbytes hcells hslots hdg (fun q cA H1 hKK hP1 hD1 hS1 => by
    cases hm_cA (k := 2) hKK rfl
    obtain ⟨g1, g2, g3⟩ := hm_ws_app hH hO hS hP1 hD1 hS1
    exact kk q H1 g1 g2 g3 hS1)
theorem hm_newE (hx : p.tables.exec = Jvm.exec) (hb : c.code = cc) {own : String} {index : Nat} (hts : ∀ w ∈ lwG, w.before args s = true) (hown : s.vm.findClass own = some m.cls) (h1 : Cond.classLink own index "TileWarden$Entry" ∈ lwG) (hK : KK Γ s) (hO : hm_O Γ s.heap) (hS : va_S (gA Γ) s.heap H locs) (hH : hm_H Γ f H) {n : Int32} {N' : Nat} (hn : ¬ n < 0) (hN : n.toNatClampNeg = N') (hbytes : N' * 4 ≤ 536870912) (hcells : cells + 1 ≤ R.cells) (hslots : slots + N' ≤ R.slots) (hdg : decode cc pc = .ok (.anewarray index, 3))
    (kk : ∀ (q : Nat) (H1 : Heap), hm_H Γ (hm_up f q (eN Γ N' (fun _ => none))) H1 → f q = none → gB Γ ≤ q → va_S (gA Γ) s.heap H1 locs → W p l e R s m args below meth c H1 locs (cells + 1) (slots + N') Q (F0 m (pc + 3) ls (.ref q :: rest))) : W p l e R s m args below meth c H locs cells slots Q (F0 m pc ls (.int n :: rest)) :=
  va_newq hx hb hown (hts _ h1) hK.2.2.2.2.2.1.1 hK.1 (hm_ws_P hH) hm_ws_D hS (hm_A hO) hn hN hbytes hcells hslots hdg (fun q cA H1 hKK hP1 hD1 hS1 => by
    cases hm_cA (k := 3) hKK rfl
    obtain ⟨g1, g2, g3⟩ := hm_ws_app hH hO hS hP1 hD1 hS1
    exact kk q H1 g1 g2 g3 hS1)
theorem hm_newO (hx : p.tables.exec = Jvm.exec) (hb : c.code = cc) {own : String} {index : Nat} (hts : ∀ w ∈ lwG, w.before args s = true) (hown : s.vm.findClass own = some m.cls) (h1 : Cond.classLink own index "java/lang/Object" ∈ lwG) (hK : KK Γ s) (hO : hm_O Γ s.heap) (hS : va_S (gA Γ) s.heap H locs) (hH : hm_H Γ f H) {n : Int32} {N' : Nat} (hn : ¬ n < 0) (hN : n.toNatClampNeg = N') (hbytes : N' * 4 ≤ 536870912) (hcells : cells + 1 ≤ R.cells) (hslots : slots + N' ≤ R.slots) (hdg : decode cc pc = .ok (.anewarray index, 3))
    (kk : ∀ (q : Nat) (H1 : Heap), hm_H Γ (hm_up f q (eO Γ N' (fun _ => none))) H1 → f q = none → gB Γ ≤ q → va_S (gA Γ) s.heap H1 locs → W p l e R s m args below meth c H1 locs (cells + 1) (slots + N') Q (F0 m (pc + 3) ls (.ref q :: rest))) : W p l e R s m args below meth c H locs cells slots Q (F0 m pc ls (.int n :: rest)) :=
  va_newq hx hb hown (hts _ h1) hK.2.2.2.2.2.1.2 hK.1 (hm_ws_P hH) hm_ws_D hS (hm_A hO) hn hN hbytes hcells hslots hdg (fun q cA H1 hKK hP1 hD1 hS1 => by
    cases hm_cA (k := 4) hKK rfl
    obtain ⟨g1, g2, g3⟩ := hm_ws_app hH hO hS hP1 hD1 hS1
    exact kk q H1 g1 g2 g3 hS1)
theorem hm_astE (hx : p.tables.exec = Jvm.exec) (hb : c.code = cc) (hK : KK Γ s) (hO : hm_O Γ s.heap) (hS : va_S (gA Γ) s.heap H locs) (hH : hm_H Γ f H) {n v : Nat} {g : Nat → Option Nat} {vs : List Value} (ha : f a = some (eN Γ n g)) (hv : f v = some (eR 2 vs)) {i : Int32} (hin : vp_in i n) (hdg : decode cc pc = .ok (.aastore, 1))
    (kk : ∀ (H1 : Heap) (locs1 : List Loc), hm_H Γ (hm_up f a (eN Γ n (va_up g i.toNatClampNeg (some v)))) H1 → va_S (gA Γ) s.heap H1 locs1 → W p l e R s m args below meth c H1 locs1 cells slots Q (F0 m (pc + 1) ls rest)) : W p l e R s m args below meth c H locs cells slots Q (F0 m pc ls (.ref v :: .int i :: .ref a :: rest)) := by
  obtain ⟨q, hq⟩ := hm_ws_at hH ha (hm_gn hH ha hin)
  obtain ⟨q2, hq2⟩ := hm_ws_at hH hv (hm_ge hH hv)
  exact va_astq hx hb hK.1 (hm_ws_P hH) hm_ws_D hS q 3 q2 2 (r := (RX2, TX2, 7)) hq rfl hq2 rfl hin hdg (fun H1 locs1 hP1 _ hS1 => kk H1 locs1 (hm_ws_set hH hO hS hq hP1 hS1) hS1)
theorem hm_astO (hx : p.tables.exec = Jvm.exec) (hb : c.code = cc) (hK : KK Γ s) (hO : hm_O Γ s.heap) (hS : va_S (gA Γ) s.heap H locs) (hH : hm_H Γ f H) {n v ci : Nat} {r : vw_C} {g : Nat → Option Nat} {vs : List Value} (ha : f a = some (eO Γ n g)) (hv : f v = some (eR ci vs)) (hc : hcl[ci]? = some r) (hz : (r.1, "java/lang/Object") ∈ zC) {i : Int32} (hin : vp_in i n) (hdg : decode cc pc = .ok (.aastore, 1))
    (kk : ∀ (H1 : Heap) (locs1 : List Loc), hm_H Γ (hm_up f a (eO Γ n (va_up g i.toNatClampNeg (some v)))) H1 → va_S (gA Γ) s.heap H1 locs1 → W p l e R s m args below meth c H1 locs1 cells slots Q (F0 m (pc + 1) ls rest)) : W p l e R s m args below meth c H locs cells slots Q (F0 m pc ls (.ref v :: .int i :: .ref a :: rest)) := by
  obtain ⟨q, hq⟩ := hm_ws_at hH ha (hm_gn hH ha hin)
  obtain ⟨q2, hq2⟩ := hm_ws_at hH hv (hm_ge hH hv)
  exact va_astqO hx hb hK.1 (hm_ws_P hH) hm_ws_D hS q 4 q2 ci (r := r) hq rfl (hK.2.2.1.1 _ hz) hq2 hc hin hdg (fun H1 locs1 hP1 _ hS1 => kk H1 locs1 (hm_ws_set hH hO hS hq hP1 hS1) hS1)
/-- an object of the world is of a class under Object -/
theorem hm_any (hK : KK Γ s) (hH : hm_H Γ f H) {y ci : Nat} {vs : List Value} {r : vw_C} (hy : f y = some (eR ci vs)) (hc : hcl[ci]? = some r) (hz : (r.1, "java/lang/Object") ∈ zC) : va_Any "java/lang/Object" s H y :=
  va_rAny hK.1 (hm_one hH hy (by intro z; cases z)) (q0 := 0) rfl hc (fun comp c0 h1 h2 => by
    obtain ⟨c0', t1, f1, f2, f3⟩ := Cond.castable_spec (va_Nw.use (A := #[]) rfl (hK.2.2.1.1 _ hz))
    cases h2.symm.trans f1
    cases h1.symm.trans f2
    exact f3)
theorem hm_copyO (hx : p.tables.exec = Jvm.exec) (hb : c.code = cc) (hml : c.maxLocals = nL) (hsz : ls.size = nL) {own : String} (hown : s.vm.findClass own = some m.cls) {index : Nat} (hts : ∀ w ∈ lwG, w.before args s = true) (h1 : Cond.methodLink own index arraycopyName ∈ lwG) (hK : KK Γ s) (hO : hm_O Γ s.heap) (hS : va_S (gA Γ) s.heap H locs) (hH : hm_H Γ f H) {a0 n0 n1 : Nat} {g0 g1 : Nat → Option Nat} (ha0 : f a0 = some (eO Γ n0 g0)) (ha1 : f a = some (eO Γ n1 g1)) (hb0 : gB Γ ≤ a0) (hb1 : gB Γ ≤ a)
    {sp dp n : Int32} (e1 : ¬ sp < 0) (e2 : ¬ dp < 0) (e3 : ¬ n < 0) (e4 : sp.toNatClampNeg + n.toNatClampNeg ≤ n0) (e5 : dp.toNatClampNeg + n.toNatClampNeg ≤ n1) (hel : ∀ i : Nat, i < n.toNatClampNeg → ∀ y : Nat, g0 (sp.toNatClampNeg + i) = some y → va_Any "java/lang/Object" s H y)
    (hframes : 1 ≤ R.frames) (hlocals : (rest.map fun v => v.category).sum + (nativeFrameWords "java/lang/System" "arraycopy" 5 + 11) ≤ R.locals) (hdg : decode cc pc = .ok (.invokestatic index, 3))
    (kk : ∀ (H1 : Heap) (locs1 : List Loc), hm_H Γ (hm_up f a (eO Γ n1 (va_cpy g0 g1 sp.toNatClampNeg dp.toNatClampNeg n.toNatClampNeg))) H1 → va_S (gA Γ) s.heap H1 locs1 → W p l e R s m args below meth c H1 locs1 cells slots Q (F0 m (pc + 3) ls rest)) : W p l e R s m args below meth c H locs cells slots Q (F0 m pc ls (.int n :: .int dp :: .ref a :: .int sp :: .ref a0 :: rest)) := by
  obtain ⟨k0, hk0⟩ := hm_ws_at hH ha0 hb0
  obtain ⟨k1, hk1⟩ := hm_ws_at hH ha1 hb1
  exact va_copyM hx hb (hml.trans hsz.symm) hown (hts _ h1) (hts _ q2_178) (hts _ q2_177) (hts _ q1_17) hK.1 (hm_ws_P hH) hm_ws_D hS k0 k1 4 4 hk0 hk1 rfl rfl e1 e2 e3 e4 e5 hel hframes hlocals hdg (fun H1 locs1 hP1 _ hS1 => kk H1 locs1 (hm_ws_set hH hO hS hk1 hP1 hS1) hS1)
theorem hm_getsE (hx : p.tables.exec = Jvm.exec) (hb : c.code = cc) (hts : ∀ w ∈ lwG, w.before args s = true) (hown : s.vm.findClass "java/util/ArrayList" = some m.cls) (hK : KK Γ s) (hO : hm_O Γ s.heap) (hS : va_S (gA Γ) s.heap H locs) (hdg : decode cc pc = .ok (.getstatic 39, 3))
    (kk : W p l e R s m args below meth c H locs cells slots Q (F0 m (pc + 3) ls (.ref (gE Γ) :: rest))) : W p l e R s m args below meth c H locs cells slots Q (F0 m pc ls rest) :=
  va_gets hx hb (hm_Zat hK.2.1.1 hO) hS hown (hts _ q1_62) (fun _ h => h) hdg kk
theorem hm_castR (hx : p.tables.exec = Jvm.exec) (hb : c.code = cc) {own : String} {index : Nat} (hts : ∀ w ∈ lwG, w.before args s = true) (hown : s.vm.findClass own = some m.cls) {ci : Nat} {C : String} {T : u_T} {N : Nat} {vs : List Value} (h1 : Cond.classLink own index C ∈ lwG) (hK : KK Γ s) (hH : hm_H Γ f H) (ha : f a = some (eR ci vs)) (hc : hcl[ci]? = some (C, T, N)) (hdg : decode cc pc = .ok (.checkcast index, 3))
    (k : W p l e R s m args below meth c H locs cells slots Q (F0 m (pc + 3) ls (.ref a :: rest))) : W p l e R s m args below meth c H locs cells slots Q (F0 m pc ls (.ref a :: rest)) :=
  va_castS hx hb hown (hts _ h1) (hK.1.1 ci _ hc).2 (va_recv (ws := [(a, .inr (ci, vs))]) (q0 := 0) hK.1 (hm_one hH ha (by intro z; cases z)) hc rfl) hdg k
theorem hm_cloneB (hx : p.tables.exec = Jvm.exec) (hb : c.code = cc) (hml : c.maxLocals = nL) (hsz : ls.size = nL) (hown : s.vm.findClass RJ7 = some m.cls) (hts : ∀ w ∈ lwG, w.before args s = true) (hK : KK Γ s) (hO : hm_O Γ s.heap) (hS : va_S (gA Γ) s.heap H locs) (hH : hm_H Γ f H) {n : Nat} {g : Nat → Int32} (ha : f a = some (eB Γ n g)) (hba : gB Γ ≤ a) (hfit : ∀ i, i < n → fits .byte (.int (g i)) = true)
    (hframes : 1 ≤ R.frames) (hlocals : (rest.map fun v => v.category).sum + 14 ≤ R.locals) (hcells : cells + 1 ≤ R.cells) (hslots : slots + n ≤ R.slots) (hdg : decode cc pc = .ok (.invokevirtual 310, 3))
    (kk : ∀ (q : Nat) (H1 : Heap), hm_H Γ (hm_up f q (eB Γ n g)) H1 → f q = none → gB Γ ≤ q → va_S (gA Γ) s.heap H1 locs → W p l e R s m args below meth c H1 locs (cells + 1) (slots + n) Q (F0 m (pc + 3) ls (.ref q :: rest))) : W p l e R s m args below meth c H locs cells slots Q (F0 m pc ls (.ref a :: rest)) := by
  obtain ⟨q0, hq0⟩ := hm_ws_at hH ha hba
  exact va_clone hx hb (hml.trans hsz.symm) hown (hts _ q4_226) (hts _ q4_227) (hts _ q4_228) (hts _ q4_229) (hts _ q4_230) (hK.2.2.1.1 ("[B", "java/lang/Cloneable") (by decide)) hK.1 (hm_ws_P hH) hm_ws_D hS (hm_A hO) q0 0 hq0 rfl (va_nm_byte (hK.1.2 0 (gC Γ 0, .byte) rfl).2) (va_fit (fun i hi => hfit i hi)) hframes hlocals hcells hslots hdg (fun q H1 _ hP1 hD1 hS1 => by
    obtain ⟨g1, g2, g3⟩ := hm_ws_app hH hO hS hP1 hD1 hS1
    exact kk q H1 g1 g2 g3 hS1)
theorem hm_copyB (hx : p.tables.exec = Jvm.exec) (hb : c.code = cc) (hml : c.maxLocals = nL) (hsz : ls.size = nL) {own : String} (hown : s.vm.findClass own = some m.cls) {index : Nat} (hts : ∀ w ∈ lwG, w.before args s = true) (h1 : Cond.methodLink own index arraycopyName ∈ lwG) (hK : KK Γ s) (hO : hm_O Γ s.heap) (hS : va_S (gA Γ) s.heap H locs) (hH : hm_H Γ f H) {a0 n0 n1 : Nat} {g0 g1 : Nat → Int32} (ha0 : f a0 = some (eB Γ n0 g0)) (ha1 : f a = some (eB Γ n1 g1)) (hb0 : gB Γ ≤ a0) (hb1 : gB Γ ≤ a)
    {sp dp n : Int32} (e1 : ¬ sp < 0) (e2 : ¬ dp < 0) (e3 : ¬ n < 0) (e4 : sp.toNatClampNeg + n.toNatClampNeg ≤ n0) (e5 : dp.toNatClampNeg + n.toNatClampNeg ≤ n1) (hfit : ∀ i, i < n.toNatClampNeg → fits .byte (.int (g0 (sp.toNatClampNeg + i))) = true)
    (hframes : 1 ≤ R.frames) (hlocals : (rest.map fun v => v.category).sum + (nativeFrameWords "java/lang/System" "arraycopy" 5 + 11) ≤ R.locals) (hdg : decode cc pc = .ok (.invokestatic index, 3))
    (kk : ∀ (H1 : Heap) (locs1 : List Loc), hm_H Γ (hm_up f a (eB Γ n1 (va_cpy g0 g1 sp.toNatClampNeg dp.toNatClampNeg n.toNatClampNeg))) H1 → va_S (gA Γ) s.heap H1 locs1 → W p l e R s m args below meth c H1 locs1 cells slots Q (F0 m (pc + 3) ls rest)) : W p l e R s m args below meth c H locs cells slots Q (F0 m pc ls (.int n :: .int dp :: .ref a :: .int sp :: .ref a0 :: rest)) := by
  obtain ⟨k0, hk0⟩ := hm_ws_at hH ha0 hb0
  obtain ⟨k1, hk1⟩ := hm_ws_at hH ha1 hb1
  exact va_copyi hx hb (hml.trans hsz.symm) hown (hts _ h1) (hts _ q2_178) (hts _ q2_177) (hts _ q1_17) hK.1 (hm_ws_P hH) hm_ws_D hS k0 k1 0 0 hk0 hk1 rfl rfl rfl e1 e2 e3 e4 e5 hfit hframes hlocals hdg (fun H1 locs1 hP1 _ hS1 => kk H1 locs1 (hm_ws_set hH hO hS hk1 hP1 hS1) hS1)
theorem hm_Tat {ty : FieldType} {t N : Nat} {g : Nat → Value} {U : State} {H : Heap} (h : va_T ty t N g (gA Γ) U (gO Γ)) (hO : hm_O Γ H) : va_T ty t N g (gA Γ) U H := by
  obtain ⟨cell, h1, h2, h3, h4, h5, h6, h7⟩ := h
  exact ⟨cell, (hO.2 t (Nat.not_le.mp h7)).trans h1, h2, h3, h4, h5, h6, h7⟩
theorem hm_Oat {E : String} {t : Nat} {U : State} {H : Heap} (h : va_O E t (gA Γ) U (gO Γ)) (hO : hm_O Γ H) : va_O E t (gA Γ) U H := by
  obtain ⟨cell, h1, h2, h3, h4⟩ := h
  exact ⟨cell, (hO.2 t (Nat.not_le.mp h4)).trans h1, h2, h3, h4⟩
theorem hm_OFat {o n d : String} {v : Value} {t : Nat} {U : State} {H : Heap} (h : va_OF o n d v t (gA Γ) U (gO Γ)) (hO : hm_O Γ H) : va_OF o n d v t (gA Γ) U H := by
  obtain ⟨cf, k, i, fl, cell, h1, h2, h3, h4, h5, h6⟩ := h
  exact ⟨cf, k, i, fl, cell, h1, h2, (hO.2 t (Nat.not_le.mp h6)).trans h3, h4, h5, h6⟩
theorem hm_gets (hx : p.tables.exec = Jvm.exec) (hb : c.code = cc) {C n d own ref : String} {v : Value} {index : Nat} (hts : ∀ w ∈ lwG, w.before args s = true) (hZ : va_Z C n d v (gA Γ) s (gO Γ)) (hO : hm_O Γ s.heap) (hS : va_S (gA Γ) s.heap H locs) (hown : s.vm.findClass own = some m.cls) (hlink : Cond.fieldLink own index ref n d ∈ lwG) (hsame : ∀ x, s.fieldFound? C n d = some x → s.fieldFound? ref n d = some x) (hdg : decode cc pc = .ok (.getstatic index, 3))
    (kk : W p l e R s m args below meth c H locs cells slots Q (F0 m (pc + 3) ls (v :: rest))) : W p l e R s m args below meth c H locs cells slots Q (F0 m pc ls rest) :=
  va_gets hx hb (hm_Zat hZ hO) hS hown (hts _ hlink) hsame hdg kk
theorem hm_tl (hx : p.tables.exec = Jvm.exec) (hb : c.code = cc) {t N : Nat} {g : Nat → Value} (hT : va_T .long t N g (gA Γ) s (gO Γ)) (hO : hm_O Γ s.heap) (hS : va_S (gA Γ) s.heap H locs) {i : Int32} (hin : vp_in i N) {v : Value} (hv : g i.toNatClampNeg = v) (hdg : decode cc pc = .ok (.laload, 1))
    (kk : W p l e R s m args below meth c H locs cells slots Q (F0 m (pc + 1) ls (v :: rest))) : W p l e R s m args below meth c H locs cells slots Q (F0 m pc ls (.int i :: .ref t :: rest)) :=
  va_tl hx hb (hm_Tat hT hO) hS hin hv hdg kk
theorem hm_tb (hx : p.tables.exec = Jvm.exec) (hb : c.code = cc) {t N : Nat} {g : Nat → Value} (hT : va_T .byte t N g (gA Γ) s (gO Γ)) (hO : hm_O Γ s.heap) (hS : va_S (gA Γ) s.heap H locs) {i : Int32} (hin : vp_in i N) {v : Value} (hv : g i.toNatClampNeg = v) (hdg : decode cc pc = .ok (.baload, 1))
    (kk : W p l e R s m args below meth c H locs cells slots Q (F0 m (pc + 1) ls (v :: rest))) : W p l e R s m args below meth c H locs cells slots Q (F0 m pc ls (.int i :: .ref t :: rest)) :=
  va_tb hx hb (hm_Tat hT hO) hS hin hv hdg kk
theorem hm_tlen (hx : p.tables.exec = Jvm.exec) (hb : c.code = cc) {ty : FieldType} {t N : Nat} {g : Nat → Value} (hT : va_T ty t N g (gA Γ) s (gO Γ)) (hO : hm_O Γ s.heap) (hS : va_S (gA Γ) s.heap H locs) {v : Int32} (hv : Int32.ofNat N = v) (hdg : decode cc pc = .ok (.arraylength, 1))
    (kk : W p l e R s m args below meth c H locs cells slots Q (F0 m (pc + 1) ls (.int v :: rest))) : W p l e R s m args below meth c H locs cells slots Q (F0 m pc ls (.ref t :: rest)) :=
  va_tlen hx hb (hm_Tat hT hO) hS hv hdg kk
theorem hm_getT (hx : p.tables.exec = Jvm.exec) (hb : c.code = cc) {o n d own ref : String} {index q : Nat} {v : Value} (hts : ∀ w ∈ lwG, w.before args s = true) (hE : va_OF o n d v q (gA Γ) s (gO Γ)) (hO : hm_O Γ s.heap) (hS : va_S (gA Γ) s.heap H locs) (hown : s.vm.findClass own = some m.cls) (hlink : Cond.fieldLink own index ref n d ∈ lwG) (hsame : ∀ x, s.fieldFound? o n d = some x → s.fieldFound? ref n d = some x) (hdg : decode cc pc = .ok (.getfield index, 3))
    (kk : W p l e R s m args below meth c H locs cells slots Q (F0 m (pc + 3) ls (v :: rest))) : W p l e R s m args below meth c H locs cells slots Q (F0 m pc ls (.ref q :: rest)) :=
  vk_getf hx hb (hm_OFat hE hO) hS hown (hts _ hlink) hsame hdg kk
theorem hm_preT {As : List Value} {C : String} (hK : KK Γ s) (hO : hm_O Γ s.heap) (hS : va_S (gA Γ) s.heap H locs) (hH : hm_H Γ f H) (h : va_O C a (gA Γ) s (gO Γ)) : PreV s H C a (hm_Pc Γ (.ref a :: As) f) As :=
  ⟨hm_blind, va_Orecv (hm_Oat h hO) hS, fun U hU hW => ⟨rfl, by rw [hU]; exact hH, by rw [hU]; exact hO.step hS, hK.moved hW⟩⟩
theorem hm_lw {l : List Cond} {y : MethodName} {b : ByteArray} {n : Nat} {r : Option FieldType} (hm4 : Cond.code y b n r ∈ lwG) (h : ∀ w ∈ l, w ∈ lwG) : GoodIn lwG (l ++ wz y b n r) := by
  intro w hw
  rcases List.mem_append.mp hw with q | q
  · exact ⟨h w q, good_of_word (lwG_good (h w q))⟩
  · rcases List.mem_cons.mp q with q | q
    · rw [q]; exact ⟨hm4, good_of_word (lwG_good hm4)⟩
    · exact ⟨q, good_of_word (lwG_good q)⟩
theorem hm_callT {own C : String} {index n nA k mc ms : Nat} {y : MethodName} {b : ByteArray} {r : Option FieldType} {As : List Value} {Post : Option Value → Hm → Prop} (hm1 : Cond.methodLink own index y ∈ lwG) (hm2 : Cond.instanceMethod y ∈ lwG) (hm3 : Cond.initialized y.cls ∈ lwG) (hm4 : Cond.code y b n r ∈ lwG) (hm5 : Cond.selects C y y ∈ lwG) (hn : hm_nm y nA) (hnA : As.length = nA)
    (hx : p.tables.exec = Jvm.exec) (hb : c.code = cc) (hml : c.maxLocals = nL) (hown : s.vm.findClass own = some m.cls) (hts : ∀ w ∈ lwG, w.before args s = true) (hS : va_S (gA Γ) s.heap H locs) (hsz : ls.size = nL) (hp : PreV s H C a (hm_Pc Γ (.ref a :: As) f) As)
    (hM : Ct Γ l y b n r k mc ms (.ref a :: As) f Post) (hR : 10 * k + 1 ≤ R.frames ∧ 8 + (n + 11) + 200 * k ≤ R.locals) (hf : cells + mc ≤ R.cells ∧ slots + ms ≤ R.slots) {st0 : List Value} (hst : st0 = As.reverse ++ .ref a :: rest) (hW : (rest.map fun v => v.category).sum ≤ 8) (hdg : decode cc pc = .ok (.invokevirtual index, 3))
    (kk : ∀ (v : Option Value) (f' : Hm) (H1 : Heap) (locs1 : List Loc), Post v f' → hm_H Γ f' H1 → va_S (gA Γ) s.heap H1 locs1 → W p l e R s m args below meth c H1 locs1 (cells + mc) (slots + ms) Q (F0 m (pc + 3) ls (v.toList ++ rest))) : W p l e R s m args below meth c H locs cells slots Q (F0 m pc ls st0) :=
  hm_call (va_runV ⟨hx, hb, hml, hown, hts⟩ hM ⟨callB_of nA hts (hm_lw (l := []) hm4 (fun w h => absurd h List.not_mem_nil)) rfl rfl rfl (hts _ hm3) (hts _ hm1) hn hR, hts _ hm2, hts _ hm5⟩ hp rfl hnA hsz hst (lv_room (pc := pc) (ls := ls) (m := m) (rest := rest) hW) hdg hf) hS kk
/-- super.y(..) -/
theorem hm_callP {own C : String} {T : u_T} {N ci : Nat} {fs : List Value} {index n nA k mc ms : Nat} {y : MethodName} {b : ByteArray} {r : Option FieldType} {As : List Value} {Post : Option Value → Hm → Prop} (hm1 : Cond.methodLink own index y ∈ lwG) (hm2 : Cond.instanceMethod y ∈ lwG) (hm3 : Cond.initialized y.cls ∈ lwG) (hm4 : Cond.code y b n r ∈ lwG) (hm5 : Cond.sameMethod y.cls y.cls y.name y.desc ∈ lwG) (hm6 : Cond.superclass own y.cls ∈ lwG) (hc : hcl[ci]? = some (C, T, N)) (hn : hm_nm y nA) (hno : y.name ≠ "<init>") (hnA : As.length = nA)
    (hx : p.tables.exec = Jvm.exec) (hb : c.code = cc) (hml : c.maxLocals = nL) (hown : s.vm.findClass own = some m.cls) (hts : ∀ w ∈ lwG, w.before args s = true) (hK : KK Γ s) (hO : hm_O Γ s.heap) (hS : va_S (gA Γ) s.heap H locs) (hH : hm_H Γ f H) (hsz : ls.size = nL) (ha : f a = some (eR ci fs))
    (hM : Ct Γ l y b n r k mc ms (.ref a :: As) f Post) (hR : 10 * k + 1 ≤ R.frames ∧ 8 + (n + 11) + 200 * k ≤ R.locals) (hf : cells + mc ≤ R.cells ∧ slots + ms ≤ R.slots) {st0 : List Value} (hst : st0 = As.reverse ++ .ref a :: rest) (hW : (rest.map fun v => v.category).sum ≤ 8) (hdg : decode cc pc = .ok (.invokespecial index, 3))
    (kk : ∀ (v : Option Value) (f' : Hm) (H1 : Heap) (locs1 : List Loc), Post v f' → hm_H Γ f' H1 → va_S (gA Γ) s.heap H1 locs1 → W p l e R s m args below meth c H1 locs1 (cells + mc) (slots + ms) Q (F0 m (pc + 3) ls (v.toList ++ rest))) : W p l e R s m args below meth c H locs cells slots Q (F0 m pc ls st0) :=
  hm_call (va_runSU (hK.1.1 ci _ hc).2 ⟨hx, hb, hml, hown, hts⟩ hM (va_cwSU nA hts (hm_lw (l := [.methodLink own index y, .sameMethod y.cls y.cls y.name y.desc, .superclass own y.cls, .instanceMethod y, .initialized y.cls]) hm4 (List.forall_mem_cons.mpr ⟨hm1, List.forall_mem_cons.mpr ⟨hm5, List.forall_mem_cons.mpr ⟨hm6, List.forall_mem_cons.mpr ⟨hm2, List.forall_mem_cons.mpr ⟨hm3, fun _ h => absurd h List.not_mem_nil⟩⟩⟩⟩⟩)) rfl rfl rfl ⟨hno, hn.2.2⟩ hR) (hm_preV hK hO hS hH ha hc) rfl hnA hsz hst (lv_room (pc := pc) (ls := ls) (m := m) (rest := rest) hW) hdg hf) hS kk
/-- a method that is inherited, or named through a class above: x, and y runs -/
theorem hm_callO {own C owner : String} {T : u_T} {N ci : Nat} {fs : List Value} {index n nA k mc ms : Nat} {x y : MethodName} {b b0 : ByteArray} {m0 : Nat} {r0 r : Option FieldType} {As : List Value} {Post : Option Value → Hm → Prop} (hm1 : Cond.methodLink own index x ∈ lwG) (hm2 : Cond.instanceMethod y ∈ lwG) (hm3 : Cond.initialized y.cls ∈ lwG) (hm4 : Cond.code y b n r ∈ lwG) (hm5 : Cond.selects C x y ∈ lwG) (hm6 : Cond.sameMethod x.cls owner x.name x.desc ∈ lwG) (hm7 : Cond.instanceMethod ⟨owner, x.name, x.desc⟩ ∈ lwG) (hm8 : Cond.code ⟨owner, x.name, x.desc⟩ b0 m0 r0 ∈ lwG) (hc : hcl[ci]? = some (C, T, N)) (hn : owner ≠ "java/lang/invoke/MethodHandle" ∧ owner ≠ "java/lang/invoke/VarHandle" ∧ (parseMethodDescriptor x.desc).map (fun d => d.parameters.length) = some nA) (hnA : As.length = nA)
    (hx : p.tables.exec = Jvm.exec) (hb : c.code = cc) (hml : c.maxLocals = nL) (hown : s.vm.findClass own = some m.cls) (hts : ∀ w ∈ lwG, w.before args s = true) (hK : KK Γ s) (hO : hm_O Γ s.heap) (hS : va_S (gA Γ) s.heap H locs) (hH : hm_H Γ f H) (hsz : ls.size = nL) (ha : f a = some (eR ci fs))
    (hM : Ct Γ l y b n r k mc ms (.ref a :: As) f Post) (hR : 10 * k + 1 ≤ R.frames ∧ 8 + (n + 11) + 200 * k ≤ R.locals) (hf : cells + mc ≤ R.cells ∧ slots + ms ≤ R.slots) {st0 : List Value} (hst : st0 = As.reverse ++ .ref a :: rest) (hW : (rest.map fun v => v.category).sum ≤ 8) (hdg : decode cc pc = .ok (.invokevirtual index, 3))
    (kk : ∀ (v : Option Value) (f' : Hm) (H1 : Heap) (locs1 : List Loc), Post v f' → hm_H Γ f' H1 → va_S (gA Γ) s.heap H1 locs1 → W p l e R s m args below meth c H1 locs1 (cells + mc) (slots + ms) Q (F0 m (pc + 3) ls (v.toList ++ rest))) : W p l e R s m args below meth c H locs cells slots Q (F0 m pc ls st0) :=
  hm_call (va_runU ⟨hx, hb, hml, hown, hts⟩ hM (va_cwO nA hts (hm_lw (l := [.methodLink own index x, .sameMethod x.cls owner x.name x.desc, .instanceMethod ⟨owner, x.name, x.desc⟩, .selects C x y, .instanceMethod y, .initialized y.cls]) hm4 (List.forall_mem_cons.mpr ⟨hm1, List.forall_mem_cons.mpr ⟨hm6, List.forall_mem_cons.mpr ⟨hm7, List.forall_mem_cons.mpr ⟨hm5, List.forall_mem_cons.mpr ⟨hm2, List.forall_mem_cons.mpr ⟨hm3, fun _ h => absurd h List.not_mem_nil⟩⟩⟩⟩⟩⟩)) rfl rfl rfl hm8 hn hR) (hm_preV hK hO hS hH ha hc) rfl hnA hsz hst (lv_room (pc := pc) (ls := ls) (m := m) (rest := rest) hW) hdg hf) hS kk
/-- a method named through an interface: x, and y runs -/
theorem hm_callF {own C : String} {T : u_T} {N ci : Nat} {fs : List Value} {index count n nA k mc ms : Nat} {x y : MethodName} {b : ByteArray} {r : Option FieldType} {As : List Value} {Post : Option Value → Hm → Prop} (hm1 : Cond.methodLink own index x ∈ lwG) (hm2 : Cond.instanceMethod y ∈ lwG) (hm3 : Cond.initialized y.cls ∈ lwG) (hm4 : Cond.code y b n r ∈ lwG) (hm5 : Cond.selects C x y ∈ lwG) (hF : va_Fw C x y s) (hc : hcl[ci]? = some (C, T, N)) (hn : hm_nm x nA) (hnA : As.length = nA)
    (hx : p.tables.exec = Jvm.exec) (hb : c.code = cc) (hml : c.maxLocals = nL) (hown : s.vm.findClass own = some m.cls) (hts : ∀ w ∈ lwG, w.before args s = true) (hK : KK Γ s) (hO : hm_O Γ s.heap) (hS : va_S (gA Γ) s.heap H locs) (hH : hm_H Γ f H) (hsz : ls.size = nL) (ha : f a = some (eR ci fs))
    (hM : Ct Γ l y b n r k mc ms (.ref a :: As) f Post) (hR : 10 * k + 1 ≤ R.frames ∧ 8 + (n + 11) + 200 * k ≤ R.locals) (hf : cells + mc ≤ R.cells ∧ slots + ms ≤ R.slots) {st0 : List Value} (hst : st0 = As.reverse ++ .ref a :: rest) (hW : (rest.map fun v => v.category).sum ≤ 8) (hdg : decode cc pc = .ok (.invokeinterface index count, 5))
    (kk : ∀ (v : Option Value) (f' : Hm) (H1 : Heap) (locs1 : List Loc), Post v f' → hm_H Γ f' H1 → va_S (gA Γ) s.heap H1 locs1 → W p l e R s m args below meth c H1 locs1 (cells + mc) (slots + ms) Q (F0 m (pc + 5) ls (v.toList ++ rest))) : W p l e R s m args below meth c H locs cells slots Q (F0 m pc ls st0) := by
  have hr : va_Run5 p l e R s m args below meth c H locs cells slots mc ms (F0 m pc ls st0) rest (hm_Q Γ Post (Value.ref a :: As).toArray) (gA Γ) := va_runF (hK.1.1 ci _ hc).2 ⟨hx, hb, hml, hown, hts⟩ hM (va_cwF nA hts (hm_lw (l := [.methodLink own index x, .selects C x y, .instanceMethod y, .initialized y.cls]) hm4 (List.forall_mem_cons.mpr ⟨hm1, List.forall_mem_cons.mpr ⟨hm5, List.forall_mem_cons.mpr ⟨hm2, List.forall_mem_cons.mpr ⟨hm3, fun _ h => absurd h List.not_mem_nil⟩⟩⟩⟩)) rfl rfl rfl hF hn hR) (hm_preV hK hO hS hH ha hc) rfl hnA hsz hst (lv_room (pc := pc) (ls := ls) (m := m) (rest := rest) hW) hdg hf
  intro T hT X
  obtain ⟨v, st₀, t, T', L, h0, X', hL, e1, e2, ⟨⟨v', f', hv, hp, hh⟩, hF⟩, st⟩ := hr T hT X
  cases hv
  obtain ⟨k1, k2, k3⟩ := vx_keep h0 e1 hS (fun _ _ h => h) (fun _ h => h) hL hF
  obtain ⟨t2, a1, b1⟩ := kk v f' T'.heap (locs ++ L) hp (by rw [e1]; exact hh) k3 T' rfl X'
  exact ⟨t2, st t2 a1, b1⟩
theorem hm_instS (hx : p.tables.exec = Jvm.exec) (hb : c.code = cc) {own : String} {index : Nat} (hts : ∀ w ∈ lwG, w.before args s = true) (hown : s.vm.findClass own = some m.cls) {ci : Nat} {C : String} {T : u_T} {N : Nat} {vs : List Value} (h1 : Cond.classLink own index C ∈ lwG) (hK : KK Γ s) (hH : hm_H Γ f H) (ha : f a = some (eR ci vs)) (hc : hcl[ci]? = some (C, T, N)) (hdg : decode cc pc = .ok (.instanceof index, 3))
    (k : W p l e R s m args below meth c H locs cells slots Q (F0 m (pc + 3) ls (.int 1 :: rest))) : W p l e R s m args below meth c H locs cells slots Q (F0 m pc ls (.ref a :: rest)) :=
  va_instS hx hb hown (hts _ h1) (hK.1.1 ci _ hc).2 (va_recv (ws := [(a, .inr (ci, vs))]) (q0 := 0) hK.1 (hm_one hH ha (by intro z; cases z)) hc rfl) hdg k
end HR2
