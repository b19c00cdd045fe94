/-! rows of what makes cells, of arrays of references, of copies, casts, mirrors and statics, over the closed world -/
theorem hm_A {Γ : Gm} {H : Heap} (h : hm_O Γ H) : ∀ q : Nat, H.size ≤ q → gA Γ q := fun _ hq => Nat.le_trans h.1 hq
theorem hm_RAn {U : State} {cA : ClassId} {ty : FieldType} (h : va_RA U cA ty) : U.vm.findClass ("[" ++ ty.toString) = some cA := by
  cases ty with
  | object C => obtain ⟨_, _, _, _, _, h⟩ := h; exact h
  | _ => exact h
theorem hm_cA {D : va_G} {cl : List vw_C} {tys : List (ClassId × FieldType)} {U : State} {cA cB : ClassId} {ty : FieldType} {k : Nat} (h : va_K D cl (tys ++ [(cA, ty)]) U) (hk : tys[k]? = some (cB, ty)) : cA = cB := by
  have hl := (List.getElem?_eq_some_iff.mp hk).1
  have h1 := hm_RAn (h.2 k (cB, ty) (by rw [List.getElem?_append_left hl]; exact hk)).2
  have h2 := hm_RAn (h.2 tys.length (cA, ty) (by rw [List.getElem?_append_right (Nat.le_refl _), Nat.sub_self]; rfl)).2
  exact Option.some.inj (h2.symm.trans h1)
theorem hm_Zat {C n d : String} {v : Value} {Γ : Gm} {U : State} {H : Heap} (h : va_Z C n d v (gA Γ) U (gO Γ)) (hO : hm_O Γ H) : va_Z C n d v (gA Γ) U H := by
  obtain ⟨cf, kf, fi, f, a, cell, h1, h2, h3, h4, h5, h6, h7, h8⟩ := h
  exact ⟨cf, kf, fi, f, a, cell, h1, h2, h3, h4, (hO.2 a (Nat.not_le.mp h8)).trans h5, h6, h7, h8⟩
section HR2
variable {p : Program} {l : Launch} {e : Env} {R : Room} {s : State} {m : MethodId} {args : Array Value} {below : List Frame} {meth : Method} {c : Code} {H : Heap} {locs : List Loc} {cells slots : Nat} {Q : State → Prop}
variable {cc : ByteArray} {pc nL : Nat} {ls : Array Slot} {rest : List Value} {Γ : Gm} {f : Hm} {a : Nat}
theorem hm_new (hx : p.tables.exec = Jvm.exec) (hb : c.code = cc) {own C : String} {T : u_T} {N ci index : Nat} (hts : ∀ w ∈ lwG, w.before args s = true) (hin : ∀ w ∈ u_ws C T N, w ∈ lwG) (ty : Nat → FieldType) (hty : ∀ k, k < N → parseFieldDescriptor (T k).2.2.1 = some (ty k)) (hown : s.vm.findClass own = some m.cls) (h1 : Cond.classLink own index C ∈ lwG) (h2 : Cond.instantiable C N ∈ lwG) (h3 : Cond.initialized C ∈ lwG)
    (hK : KK Γ s) (hO : hm_O Γ s.heap) (hS : va_S (gA Γ) s.heap H locs) (hH : hm_H Γ f H) (hc : hcl[ci]? = some (C, T, N)) {fs : List Value} (hfs : ∀ j, j < N → defaultValue (ty j) = vp_V fs j) (hcells : cells + 1 ≤ R.cells) (hslots : slots + N ≤ R.slots) (hdg : decode cc pc = .ok (.new index, 3))
    (kk : ∀ (q : Nat) (H1 : Heap), hm_H Γ (hm_up f q (eR ci fs)) H1 → f q = none → gB Γ ≤ q → va_S (gA Γ) s.heap H1 locs → W p l e R s m args below meth c H1 locs (cells + 1) (slots + N) Q (F0 m (pc + 3) ls (.ref q :: rest))) : W p l e R s m args below meth c H locs cells slots Q (F0 m pc ls rest) :=
  va_new hx hb hts hin ty hty hown (hts _ h1) (hts _ h2) (hts _ h3) hK.1 (hm_ws_P hH) hm_ws_D hS (hm_A hO) hc hfs hcells hslots hdg (fun q H1 hP1 hD1 hS1 => by
    obtain ⟨g1, g2, g3⟩ := hm_ws_app hH hO hS hP1 hD1 hS1
    exact kk q H1 g1 g2 g3 hS1)
theorem hm_newI (hx : p.tables.exec = Jvm.exec) (hb : c.code = cc) (hts : ∀ w ∈ lwG, w.before args s = true) (hK : KK Γ s) (hO : hm_O Γ s.heap) (hS : va_S (gA Γ) s.heap H locs) (hH : hm_H Γ f H) {n : Int32} {N' : Nat} (hn : ¬ n < 0) (hN : n.toNatClampNeg = N') (hbytes : N' * 4 ≤ 536870912) (hcells : cells + 1 ≤ R.cells) (hslots : slots + N' ≤ R.slots) (hdg : decode cc pc = .ok (.newarray .int, 2))
    (kk : ∀ (q : Nat) (H1 : Heap), hm_H Γ (hm_up f q (eI Γ N' (fun _ => 0))) H1 → f q = none → gB Γ ≤ q → va_S (gA Γ) s.heap H1 locs → W p l e R s m args below meth c H1 locs (cells + 1) (slots + N') Q (F0 m (pc + 2) ls (.ref q :: rest))) : W p l e R s m args below meth c H locs cells slots Q (F0 m pc ls (.int n :: rest)) :=
  va_newa hx hb (atype := .int) (ty := .int) (a0 := (N', .inl (fun _ => 0))) (hts _ q5_108) rfl hK.1 (hm_ws_P hH) hm_ws_D hS (hm_A hO) (fun _ => rfl) hn hN hbytes hcells hslots hdg (fun q cA H1 hKK hP1 hD1 hS1 => by
    cases hm_cA (k := 0) hKK rfl
    obtain ⟨g1, g2, g3⟩ := hm_ws_app hH hO hS hP1 hD1 hS1
    exact kk q H1 g1 g2 g3 hS1)
theorem hm_newJ (hx : p.tables.exec = Jvm.exec) (hb : c.code = cc) (hts : ∀ w ∈ lwG, w.before args s = true) (hK : KK Γ s) (hO : hm_O Γ s.heap) (hS : va_S (gA Γ) s.heap H locs) (hH : hm_H Γ f H) {n : Int32} {N' : Nat} (hn : ¬ n < 0) (hN : n.toNatClampNeg = N') (hbytes : N' * 8 ≤ 536870912) (hcells : cells + 1 ≤ R.cells) (hslots : slots + N' ≤ R.slots) (hdg : decode cc pc = .ok (.newarray .long, 2))
    (kk : ∀ (q : Nat) (H1 : Heap), hm_H Γ (hm_up f q (eJ Γ N' (fun _ => 0))) H1 → f q = none → gB Γ ≤ q → va_S (gA Γ) s.heap H1 locs → W p l e R s m args below meth c H1 locs (cells + 1) (slots + N') Q (F0 m (pc + 2) ls (.ref q :: rest))) : W p l e R s m args below meth c H locs cells slots Q (F0 m pc ls (.int n :: rest)) :=
  va_newa hx hb (atype := .long) (ty := .long) (a0 := (N', .inr (.inl (fun _ => 0)))) (hts _ q5_109) rfl hK.1 (hm_ws_P hH) hm_ws_D hS (hm_A hO) (fun _ => rfl) hn hN hbytes hcells hslots hdg (fun q cA H1 hKK hP1 hD1 hS1 => by
    cases hm_cA (k := 1) hKK rfl
    obtain ⟨g1, g2, g3⟩ := hm_ws_app hH hO hS hP1 hD1 hS1
    exact kk q H1 g1 g2 g3 hS1)
theorem hm_newZ (hx : p.tables.exec = Jvm.exec) (hb : c.code = cc) (hts : ∀ w ∈ lwG, w.before args s = true) (hK : KK Γ s) (hO : hm_O Γ s.heap) (hS : va_S (gA Γ) s.heap H locs) (hH : hm_H Γ f H) {n : Int32} {N' : Nat} (hn : ¬ n < 0) (hN : n.toNatClampNeg = N') (hbytes : N' * 1 ≤ 536870912) (hcells : cells + 1 ≤ R.cells) (hslots : slots + N' ≤ R.slots) (hdg : decode cc pc = .ok (.newarray .boolean, 2))
    (kk : ∀ (q : Nat) (H1 : Heap), hm_H Γ (hm_up f q (eZ Γ N' (fun _ => 0))) H1 → f q = none → gB Γ ≤ q → va_S (gA Γ) s.heap H1 locs → W p l e R s m args below meth c H1 locs (cells + 1) (slots + N') Q (F0 m (pc + 2) ls (.ref q :: rest))) : W p l e R s m args below meth c H locs cells slots Q (F0 m pc ls (.int n :: rest)) :=
  va_newa hx hb (atype := .boolean) (ty := .boolean) (a0 := (N', .inl (fun _ => 0))) (hts _ q5_110) rfl hK.1 (hm_ws_P hH) hm_ws_D hS (hm_A hO) (fun _ => rfl) hn hN hbytes hcells hslots hdg (fun q cA H1 hKK hP1 hD1 hS1 => by
    cases hm_cA (k := 2) hKK rfl
    obtain ⟨g1, g2, g3⟩ := hm_ws_app hH hO hS hP1 hD1 hS1
    exact kk q H1 g1 g2 g3 hS1)
theorem hm_newD (hx : p.tables.exec = Jvm.exec) (hb : c.code = cc) (hts : ∀ w ∈ lwG, w.before args s = true) (hK : KK Γ s) (hO : hm_O Γ s.heap) (hS : va_S (gA Γ) s.heap H locs) (hH : hm_H Γ f H) {n : Int32} {N' : Nat} (hn : ¬ n < 0) (hN : n.toNatClampNeg = N') (hbytes : N' * 8 ≤ 536870912) (hcells : cells + 1 ≤ R.cells) (hslots : slots + N' ≤ R.slots) (hdg : decode cc pc = .ok (.newarray .double, 2))
    (kk : ∀ (q : Nat) (H1 : Heap), hm_H Γ (hm_up f q (eF Γ N' (fun _ => 0))) H1 → f q = none → gB Γ ≤ q → va_S (gA Γ) s.heap H1 locs → W p l e R s m args below meth c H1 locs (cells + 1) (slots + N') Q (F0 m (pc + 2) ls (.ref q :: rest))) : W p l e R s m args below meth c H locs cells slots Q (F0 m pc ls (.int n :: rest)) :=
  va_newa hx hb (atype := .double) (ty := .double) (a0 := (N', .inr (.inr (.inr (.inl (fun _ => 0)))))) (hts _ q6_97) rfl hK.1 (hm_ws_P hH) hm_ws_D hS (hm_A hO) (fun _ => rfl) hn hN hbytes hcells hslots hdg (fun q cA H1 hKK hP1 hD1 hS1 => by
    cases hm_cA (k := 5) hKK rfl
    obtain ⟨g1, g2, g3⟩ := hm_ws_app hH hO hS hP1 hD1 hS1
    exact kk q H1 g1 g2 g3 hS1)
theorem hm_newE (hx : p.tables.exec = Jvm.exec) (hb : c.code = cc) {own : String} {index : Nat} (hts : ∀ w ∈ lwG, w.before args s = true) (hown : s.vm.findClass own = some m.cls) (h1 : Cond.classLink own index "TileWarden$Entry" ∈ lwG) (hK : KK Γ s) (hO : hm_O Γ s.heap) (hS : va_S (gA Γ) s.heap H locs) (hH : hm_H Γ f H) {n : Int32} {N' : Nat} (hn : ¬ n < 0) (hN : n.toNatClampNeg = N') (hbytes : N' * 4 ≤ 536870912) (hcells : cells + 1 ≤ R.cells) (hslots : slots + N' ≤ R.slots) (hdg : decode cc pc = .ok (.anewarray index, 3))
    (kk : ∀ (q : Nat) (H1 : Heap), hm_H Γ (hm_up f q (eN Γ N' (fun _ => none))) H1 → f q = none → gB Γ ≤ q → va_S (gA Γ) s.heap H1 locs → W p l e R s m args below meth c H1 locs (cells + 1) (slots + N') Q (F0 m (pc + 3) ls (.ref q :: rest))) : W p l e R s m args below meth c H locs cells slots Q (F0 m pc ls (.int n :: rest)) :=
  va_newq hx hb hown (hts _ h1) hK.2.2.2.2.2.1.1 hK.1 (hm_ws_P hH) hm_ws_D hS (hm_A hO) hn hN hbytes hcells hslots hdg (fun q cA H1 hKK hP1 hD1 hS1 => by
    cases hm_cA (k := 3) hKK rfl
    obtain ⟨g1, g2, g3⟩ := hm_ws_app hH hO hS hP1 hD1 hS1
    exact kk q H1 g1 g2 g3 hS1)
theorem hm_newO (hx : p.tables.exec = Jvm.exec) (hb : c.code = cc) {own : String} {index : Nat} (hts : ∀ w ∈ lwG, w.before args s = true) (hown : s.vm.findClass own = some m.cls) (h1 : Cond.classLink own index "java/lang/Object" ∈ lwG) (hK : KK Γ s) (hO : hm_O Γ s.heap) (hS : va_S (gA Γ) s.heap H locs) (hH : hm_H Γ f H) {n : Int32} {N' : Nat} (hn : ¬ n < 0) (hN : n.toNatClampNeg = N') (hbytes : N' * 4 ≤ 536870912) (hcells : cells + 1 ≤ R.cells) (hslots : slots + N' ≤ R.slots) (hdg : decode cc pc = .ok (.anewarray index, 3))
    (kk : ∀ (q : Nat) (H1 : Heap), hm_H Γ (hm_up f q (eO Γ N' (fun _ => none))) H1 → f q = none → gB Γ ≤ q → va_S (gA Γ) s.heap H1 locs → W p l e R s m args below meth c H1 locs (cells + 1) (slots + N') Q (F0 m (pc + 3) ls (.ref q :: rest))) : W p l e R s m args below meth c H locs cells slots Q (F0 m pc ls (.int n :: rest)) :=
  va_newq hx hb hown (hts _ h1) hK.2.2.2.2.2.1.2 hK.1 (hm_ws_P hH) hm_ws_D hS (hm_A hO) hn hN hbytes hcells hslots hdg (fun q cA H1 hKK hP1 hD1 hS1 => by
    cases hm_cA (k := 4) hKK rfl
    obtain ⟨g1, g2, g3⟩ := hm_ws_app hH hO hS hP1 hD1 hS1
    exact kk q H1 g1 g2 g3 hS1)
theorem hm_astE (hx : p.tables.exec = Jvm.exec) (hb : c.code = cc) (hK : KK Γ s) (hO : hm_O Γ s.heap) (hS : va_S (gA Γ) s.heap H locs) (hH : hm_H Γ f H) {n v : Nat} {g : Nat → Option Nat} {vs : List Value} (ha : f a = some (eN Γ n g)) (hv : f v = some (eR 2 vs)) {i : Int32} (hin : vp_in i n) (hdg : decode cc pc = .ok (.aastore, 1))
    (kk : ∀ (H1 : Heap) (locs1 : List Loc), hm_H Γ (hm_up f a (eN Γ n (va_up g i.toNatClampNeg (some v)))) H1 → va_S (gA Γ) s.heap H1 locs1 → W p l e R s m args below meth c H1 locs1 cells slots Q (F0 m (pc + 1) ls rest)) : W p l e R s m args below meth c H locs cells slots Q (F0 m pc ls (.ref v :: .int i :: .ref a :: rest)) := by
  obtain ⟨q, hq⟩ := hm_ws_at hH ha (hm_gn hH ha hin)
  obtain ⟨q2, hq2⟩ := hm_ws_at hH hv (hm_ge hH hv)
  exact va_astq hx hb hK.1 (hm_ws_P hH) hm_ws_D hS q 3 q2 2 (r := (RX2, TX2, 7)) hq rfl hq2 rfl hin hdg (fun H1 locs1 hP1 _ hS1 => kk H1 locs1 (hm_ws_set hH hO hS hq hP1 hS1) hS1)
theorem hm_astO (hx : p.tables.exec = Jvm.exec) (hb : c.code = cc) (hK : KK Γ s) (hO : hm_O Γ s.heap) (hS : va_S (gA Γ) s.heap H locs) (hH : hm_H Γ f H) {n v ci : Nat} {r : vw_C} {g : Nat → Option Nat} {vs : List Value} (ha : f a = some (eO Γ n g)) (hv : f v = some (eR ci vs)) (hc : hcl[ci]? = some r) (hz : (r.1, "java/lang/Object") ∈ zC) {i : Int32} (hin : vp_in i n) (hdg : decode cc pc = .ok (.aastore, 1))
    (kk : ∀ (H1 : Heap) (locs1 : List Loc), hm_H Γ (hm_up f a (eO Γ n (va_up g i.toNatClampNeg (some v)))) H1 → va_S (gA Γ) s.heap H1 locs1 → W p l e R s m args below meth c H1 locs1 cells slots Q (F0 m (pc + 1) ls rest)) : W p l e R s m args below meth c H locs cells slots Q (F0 m pc ls (.ref v :: .int i :: .ref a :: rest)) := by
  obtain ⟨q, hq⟩ := hm_ws_at hH ha (hm_gn hH ha hin)
  obtain ⟨q2, hq2⟩ := hm_ws_at hH hv (hm_ge hH hv)
  exact va_astqO hx hb hK.1 (hm_ws_P hH) hm_ws_D hS q 4 q2 ci (r := r) hq rfl (hK.2.2.1.1 _ hz) hq2 hc hin hdg (fun H1 locs1 hP1 _ hS1 => kk H1 locs1 (hm_ws_set hH hO hS hq hP1 hS1) hS1)
theorem hm_zast (hx : p.tables.exec = Jvm.exec) (hb : c.code = cc) (hK : KK Γ s) (hO : hm_O Γ s.heap) (hS : va_S (gA Γ) s.heap H locs) (hH : hm_H Γ f H) {n : Nat} {g : Nat → Int32} (ha : f a = some (eZ Γ n g)) {i : Int32} {x : Int32} (hin : vp_in i n) (hdg : decode cc pc = .ok (.bastore, 1))
    (kk : ∀ (H1 : Heap) (locs1 : List Loc), hm_H Γ (hm_up f a (eZ Γ n (upd g i.toNatClampNeg (vp_nar .boolean x)))) H1 → va_S (gA Γ) s.heap H1 locs1 → W p l e R s m args below meth c H1 locs1 cells slots Q (F0 m (pc + 1) ls rest)) : W p l e R s m args below meth c H locs cells slots Q (F0 m pc ls (.int x :: .int i :: .ref a :: rest)) := by
  obtain ⟨q, hq⟩ := hm_ws_at hH ha (hm_gn hH ha hin)
  exact va_zast hx hb hK.1 (hm_ws_P hH) hm_ws_D hS q 2 hq rfl hin hdg (fun H1 locs1 hP1 _ hS1 => kk H1 locs1 (hm_ws_set hH hO hS hq hP1 hS1) hS1)
theorem hm_cloneI (hx : p.tables.exec = Jvm.exec) (hb : c.code = cc) (hml : c.maxLocals = nL) (hsz : ls.size = nL) (hown : s.vm.findClass RX8 = some m.cls) (hts : ∀ w ∈ lwG, w.before args s = true) (hK : KK Γ s) (hO : hm_O Γ s.heap) (hS : va_S (gA Γ) s.heap H locs) (hH : hm_H Γ f H) {n : Nat} {g : Nat → Int32} (ha : f a = some (eI Γ n g)) (hba : gB Γ ≤ a)
    (hframes : 1 ≤ R.frames) (hlocals : (rest.map fun v => v.category).sum + 14 ≤ R.locals) (hcells : cells + 1 ≤ R.cells) (hslots : slots + n ≤ R.slots) (hdg : decode cc pc = .ok (.invokevirtual 204, 3))
    (kk : ∀ (q : Nat) (H1 : Heap), hm_H Γ (hm_up f q (eI Γ n g)) H1 → f q = none → gB Γ ≤ q → va_S (gA Γ) s.heap H1 locs → W p l e R s m args below meth c H1 locs (cells + 1) (slots + n) Q (F0 m (pc + 3) ls (.ref q :: rest))) : W p l e R s m args below meth c H locs cells slots Q (F0 m pc ls (.ref a :: rest)) := by
  obtain ⟨q0, hq0⟩ := hm_ws_at hH ha hba
  exact va_clone hx hb (hml.trans hsz.symm) hown (hts _ q5_208) (hts _ q5_209) (hts _ q5_203) (hts _ q5_204) (hts _ q5_210) (hK.2.2.1.1 ("[I", "java/lang/Cloneable") (by decide)) hK.1 (hm_ws_P hH) hm_ws_D hS (hm_A hO) q0 0 hq0 rfl (va_nm_int (hK.1.2 0 (gC Γ 0, .int) rfl).2) (va_fit (fun _ _ => rfl)) hframes hlocals hcells hslots hdg (fun q H1 _ hP1 hD1 hS1 => by
    obtain ⟨g1, g2, g3⟩ := hm_ws_app hH hO hS hP1 hD1 hS1
    exact kk q H1 g1 g2 g3 hS1)
theorem hm_cloneJ (hx : p.tables.exec = Jvm.exec) (hb : c.code = cc) (hml : c.maxLocals = nL) (hsz : ls.size = nL) (hown : s.vm.findClass RX8 = some m.cls) (hts : ∀ w ∈ lwG, w.before args s = true) (hK : KK Γ s) (hO : hm_O Γ s.heap) (hS : va_S (gA Γ) s.heap H locs) (hH : hm_H Γ f H) {n : Nat} {g : Nat → Int64} (ha : f a = some (eJ Γ n g)) (hba : gB Γ ≤ a)
    (hframes : 1 ≤ R.frames) (hlocals : (rest.map fun v => v.category).sum + 14 ≤ R.locals) (hcells : cells + 1 ≤ R.cells) (hslots : slots + n ≤ R.slots) (hdg : decode cc pc = .ok (.invokevirtual 199, 3))
    (kk : ∀ (q : Nat) (H1 : Heap), hm_H Γ (hm_up f q (eJ Γ n g)) H1 → f q = none → gB Γ ≤ q → va_S (gA Γ) s.heap H1 locs → W p l e R s m args below meth c H1 locs (cells + 1) (slots + n) Q (F0 m (pc + 3) ls (.ref q :: rest))) : W p l e R s m args below meth c H locs cells slots Q (F0 m pc ls (.ref a :: rest)) := by
  obtain ⟨q0, hq0⟩ := hm_ws_at hH ha hba
  exact va_clone hx hb (hml.trans hsz.symm) hown (hts _ q5_201) (hts _ q5_202) (hts _ q5_203) (hts _ q5_204) (hts _ q5_205) (hK.2.2.1.1 ("[J", "java/lang/Cloneable") (by decide)) hK.1 (hm_ws_P hH) hm_ws_D hS (hm_A hO) q0 1 hq0 rfl (va_nm_long (hK.1.2 1 (gC Γ 1, .long) rfl).2) (va_fit (fun _ _ => rfl)) hframes hlocals hcells hslots hdg (fun q H1 _ hP1 hD1 hS1 => by
    obtain ⟨g1, g2, g3⟩ := hm_ws_app hH hO hS hP1 hD1 hS1
    exact kk q H1 g1 g2 g3 hS1)
/-- an object of the world is of a class under Object -/
theorem hm_any (hK : KK Γ s) (hH : hm_H Γ f H) {y ci : Nat} {vs : List Value} {r : vw_C} (hy : f y = some (eR ci vs)) (hc : hcl[ci]? = some r) (hz : (r.1, "java/lang/Object") ∈ zC) : va_Any "java/lang/Object" s H y :=
  va_rAny hK.1 (hm_one hH hy (by intro z; cases z)) (q0 := 0) rfl hc (fun comp c0 h1 h2 => by
    obtain ⟨c0', t1, f1, f2, f3⟩ := Cond.castable_spec (va_Nw.use (A := #[]) rfl (hK.2.2.1.1 _ hz))
    cases h2.symm.trans f1
    cases h1.symm.trans f2
    exact f3)
theorem hm_copyO (hx : p.tables.exec = Jvm.exec) (hb : c.code = cc) (hml : c.maxLocals = nL) (hsz : ls.size = nL) {own : String} (hown : s.vm.findClass own = some m.cls) {index : Nat} (hts : ∀ w ∈ lwG, w.before args s = true) (h1 : Cond.methodLink own index arraycopyName ∈ lwG) (hK : KK Γ s) (hO : hm_O Γ s.heap) (hS : va_S (gA Γ) s.heap H locs) (hH : hm_H Γ f H) {a0 n0 n1 : Nat} {g0 g1 : Nat → Option Nat} (ha0 : f a0 = some (eO Γ n0 g0)) (ha1 : f a = some (eO Γ n1 g1)) (hb0 : gB Γ ≤ a0) (hb1 : gB Γ ≤ a)
    {sp dp n : Int32} (e1 : ¬ sp < 0) (e2 : ¬ dp < 0) (e3 : ¬ n < 0) (e4 : sp.toNatClampNeg + n.toNatClampNeg ≤ n0) (e5 : dp.toNatClampNeg + n.toNatClampNeg ≤ n1) (hel : ∀ i : Nat, i < n.toNatClampNeg → ∀ y : Nat, g0 (sp.toNatClampNeg + i) = some y → va_Any "java/lang/Object" s H y)
    (hframes : 1 ≤ R.frames) (hlocals : (rest.map fun v => v.category).sum + (nativeFrameWords "java/lang/System" "arraycopy" 5 + 11) ≤ R.locals) (hdg : decode cc pc = .ok (.invokestatic index, 3))
    (kk : ∀ (H1 : Heap) (locs1 : List Loc), hm_H Γ (hm_up f a (eO Γ n1 (va_cpy g0 g1 sp.toNatClampNeg dp.toNatClampNeg n.toNatClampNeg))) H1 → va_S (gA Γ) s.heap H1 locs1 → W p l e R s m args below meth c H1 locs1 cells slots Q (F0 m (pc + 3) ls rest)) : W p l e R s m args below meth c H locs cells slots Q (F0 m pc ls (.int n :: .int dp :: .ref a :: .int sp :: .ref a0 :: rest)) := by
  obtain ⟨k0, hk0⟩ := hm_ws_at hH ha0 hb0
  obtain ⟨k1, hk1⟩ := hm_ws_at hH ha1 hb1
  exact va_copyM hx hb (hml.trans hsz.symm) hown (hts _ h1) (hts _ q3_20) (hts _ q3_19) (hts _ q1_18) hK.1 (hm_ws_P hH) hm_ws_D hS k0 k1 4 4 hk0 hk1 rfl rfl e1 e2 e3 e4 e5 hel hframes hlocals hdg (fun H1 locs1 hP1 _ hS1 => kk H1 locs1 (hm_ws_set hH hO hS hk1 hP1 hS1) hS1)
theorem hm_getsE (hx : p.tables.exec = Jvm.exec) (hb : c.code = cc) (hts : ∀ w ∈ lwG, w.before args s = true) (hown : s.vm.findClass "java/util/ArrayList" = some m.cls) (hK : KK Γ s) (hO : hm_O Γ s.heap) (hS : va_S (gA Γ) s.heap H locs) (hdg : decode cc pc = .ok (.getstatic 39, 3))
    (kk : W p l e R s m args below meth c H locs cells slots Q (F0 m (pc + 3) ls (.ref (gE Γ) :: rest))) : W p l e R s m args below meth c H locs cells slots Q (F0 m pc ls rest) :=
  va_gets hx hb (hm_Zat hK.2.1.1 hO) hS hown (hts _ q1_50) (fun _ h => h) hdg kk
theorem hm_castR (hx : p.tables.exec = Jvm.exec) (hb : c.code = cc) {own : String} {index : Nat} (hts : ∀ w ∈ lwG, w.before args s = true) (hown : s.vm.findClass own = some m.cls) {ci : Nat} {C : String} {T : u_T} {N : Nat} {vs : List Value} (h1 : Cond.classLink own index C ∈ lwG) (hK : KK Γ s) (hH : hm_H Γ f H) (ha : f a = some (eR ci vs)) (hc : hcl[ci]? = some (C, T, N)) (hdg : decode cc pc = .ok (.checkcast index, 3))
    (k : W p l e R s m args below meth c H locs cells slots Q (F0 m (pc + 3) ls (.ref a :: rest))) : W p l e R s m args below meth c H locs cells slots Q (F0 m pc ls (.ref a :: rest)) :=
  va_castS hx hb hown (hts _ h1) (hK.1.1 ci _ hc).2 (va_recv (ws := [(a, .inr (ci, vs))]) (q0 := 0) hK.1 (hm_one hH ha (by intro z; cases z)) hc rfl) hdg k
end HR2
