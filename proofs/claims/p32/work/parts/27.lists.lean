/-! the Cache's making; ArrayList -/
theorem hm_k.up_ {f g : Hm} {c a : Nat} {e : va_E} (h : hm_k (fun q => q = c) f g) (_ : c ≠ a) (hn : f a = none) : hm_k (fun q => q = c) f (hm_up g a e) := h.upN hn
theorem mxI_0 {n : Nat} (h : n < 2 ^ 31) : mxI (nI n) 0 = nI n := by
  unfold mxI
  rw [if_neg (nI_pos h)]
theorem mxI_n {a b : Nat} (ha : a < 2 ^ 31) (hb : b < 2 ^ 31) : mxI (nI a) (nI b) = nI (max a b) := by
  unfold mxI
  by_cases h : a < b
  · rw [if_pos ((nI_ltI ha hb).mpr h)]; congr 1; omega
  · rw [if_neg (fun q => h ((nI_ltI ha hb).mp q))]; congr 1; omega
theorem mnI_n {a b : Nat} (ha : a < 2 ^ 31) (hb : b < 2 ^ 31) : mnI (nI a) (nI b) = nI (min a b) := by
  unfold mnI
  by_cases h : b < a
  · rw [if_pos ((nI_ltI hb ha).mpr h)]; congr 1; omega
  · rw [if_neg (fun q => h ((nI_ltI hb ha).mp q))]; congr 1; omega
set_option maxHeartbeats 4000000 in
set_option maxRecDepth 100000 in
theorem c_X1_init (Γ : Gm) (l : Launch) (c0 n : Nat) (f : Hm) (hc : f c0 = some (eR 1 [.null, .int 0, .int 0, .int 0])) (hn : n ≤ 64) : Ct Γ l yX1_init cX1_init 3 (none : Option Jvm.ClassFile.FieldType) 2 (1 + n) (n + 7 * n) [.ref c0, .int (nI n)] f (fun v f' => v = none ∧ ∃ (sl : Nat) (en : Nat → Nat), CA Γ f' c0 sl n en (fun _ => (0, 0, 0, 0, -1, 0, 0)) 0 24 0 ∧ f sl = none ∧ (∀ i, i < n → f (en i) = none) ∧ hm_k (fun q => q = c0) f f') := by
  refine Ct_of (by decide +kernel) (Nat.le_of_ble_eq_true rfl) ?_
  intro p e s m args below meth c hx hb hr hml hown hin hlocks hts hH hO hK ls hl
  have hl : lv_has ls 3 [(0, .ref c0), (1, .int (nI n))] := hl
  have hS : va_S (gA Γ) s.heap s.heap [] := va_S.rf
  have loop : ∀ (k_ i sl : Nat) (f1 : Hm) (en : Nat → Nat) (g : Nat → Option Nat), i + k_ = n → f1 c0 = some (eR 1 [.ref sl, .int 0, .int 24, .int 0]) → f1 sl = some (eN Γ n g) → (∀ j, j < i → g j = some (en j) ∧ f1 (en j) = some (ev (0, 0, 0, 0, -1, 0, 0)) ∧ f (en j) = none) → (∀ a b, a < i → b < i → en a = en b → a = b) → f sl = none → hm_k (fun q => q = c0) f f1 → ∀ (H : Heap) (locs : List Loc), hm_H Γ f1 H → va_S (gA Γ) s.heap H locs → ∀ ls : Array Slot, lv_has ls 3 [(2, .int (nI i)), (0, .ref c0), (1, .int (nI n))] → W p l e (rmk 2 (1 + n) (n + 7 * n)) s m args below meth c H locs (1 + i) (0 + n + 7 * i) (MQ below (hm_Q Γ (fun v f' => v = none ∧ ∃ (sl : Nat) (en : Nat → Nat), CA Γ f' c0 sl n en (fun _ => (0, 0, 0, 0, -1, 0, 0)) 0 24 0 ∧ f sl = none ∧ (∀ i, i < n → f (en i) = none) ∧ hm_k (fun q => q = c0) f f')) args s (1 + n) (n + 7 * n) (gA Γ)) (F0 m 34 ls []) := by
    intro k_
    induction k_ with
    | zero =>
      intro i sl f1 en g hin_ hc hsl hE hinj hfs hkk H locs hH hS ls hl
      have hi : i = n := by omega
      subst hi
      refine lv_iload_n hx hb dX1_init_34 rfl (lv_at hl 0 rfl) ?_
      refine lv_aload_n hx hb dX1_init_35 rfl (lv_at hl 1 rfl) ?_
      refine gf_X1_29 hx hb hts hown hK hH hc rfl dX1_init_36 ?_
      refine hm_alen (v := nI i) hx hb hK hH 3 hsl rfl rfl dX1_init_39 ?_
      refine lv_icmp_ge (tgt := 62) hx hb dX1_init_40 (by decide) (fun _ => ?_) (fun c1 => absurd (nI_le (Nat.le_refl _) (by omega)) c1)
      exact hm_vret hx hb hr hlocks hS hH (⟨rfl, sl, en, ⟨hc, ⟨_, hsl, fun j hj => (hE j hj).1⟩, fun j hj => (hE j hj).2.1, hinj⟩, hfs, fun j hj => (hE j hj).2.2, hkk⟩) (Nat.le_refl _) (by omega) dX1_init_62
    | succ k_ ih =>
      intro i sl f1 en g hin_ hc hsl hE hinj hfs hkk H locs hH hS ls hl
      have hi : i < n := by omega
      refine lv_iload_n hx hb dX1_init_34 rfl (lv_at hl 0 rfl) ?_
      refine lv_aload_n hx hb dX1_init_35 rfl (lv_at hl 1 rfl) ?_
      refine gf_X1_29 hx hb hts hown hK hH hc rfl dX1_init_36 ?_
      refine hm_alen (v := nI n) hx hb hK hH 3 hsl rfl rfl dX1_init_39 ?_
      refine lv_icmp_ge (tgt := 62) hx hb dX1_init_40 (by decide) (fun c1 => absurd c1 (nI_ge hi (by omega))) (fun _ => ?_)
      refine lv_aload_n hx hb dX1_init_43 rfl (lv_at hl 1 rfl) ?_
      refine gf_X1_29 hx hb hts hown hK hH hc rfl dX1_init_44 ?_
      refine lv_iload_n hx hb dX1_init_47 rfl (lv_at hl 0 rfl) ?_
      refine hm_new hx hb hts inX2 tyX2 tyX2_ok hown q1_85 q1_87 q1_7 hK hO hS hH (ci := 2) rfl (fs := [.long 0, .int 0, .int 0, .int 0, .int 0, .int 0, .int 0]) dfX2 (by show _ ≤ 1 + n; omega) (by show _ ≤ n + 7 * n; omega) dX1_init_48 (fun q2 H hH hn_q2 hb_q2 hS => ?_)
      obtain ⟨f3, ef3⟩ : ∃ zz_, zz_ = hm_up f1 q2 (eR 2 [.long 0, .int 0, .int 0, .int 0, .int 0, .int 0, .int 0]) := ⟨_, rfl⟩
      have hH : hm_H Γ f3 H := by rw [ef3]; exact hH
      have h4 : f3 q2 = some (eR 2 [.long 0, .int 0, .int 0, .int 0, .int 0, .int 0, .int 0]) := by rw [ef3]; exact hm_us
      have h5 : f3 c0 = some (eR 1 [.ref sl, .int 0, .int 24, .int 0]) := by rw [ef3]; exact (hm_un (hm_nn hc hn_q2)).trans hc
      have h6 : f3 sl = some (eN Γ n g) := by rw [ef3]; exact (hm_un (hm_nn hsl hn_q2)).trans hsl
      refine lv_dup hx hb dX1_init_51 rfl ?_
      refine hm_callN (rest := [.ref q2, .int (nI i), .ref sl]) (k := 1) q1_89 q1_7 q1_90 nm_X2_init rfl hx hb hml hown hts hK hO hS hH hl.1 (c_X2_init Γ l q2 (0, 0, 0, 0, 0, 0, 0) f3 h4) ⟨Nat.le_of_ble_eq_true rfl, Nat.le_of_ble_eq_true rfl⟩ ⟨by show _ ≤ 1 + n; omega, by show _ ≤ n + 7 * n; omega⟩ rfl (Nat.le_of_ble_eq_true rfl) dX1_init_52 (fun v_ f_ H locs hp_ hH hS => ?_)
      obtain ⟨rfl, ef_⟩ := hp_
      refine W.eq (g2 := F0 m 55 ls [.ref q2, .int (nI i), .ref sl]) rfl ?_
      have h7 : f_ c0 = some (eR 1 [.ref sl, .int 0, .int 24, .int 0]) := by rw [ef_]; exact (hm_un (hm_nn hc hn_q2)).trans h5
      have h8 : f_ sl = some (eN Γ n g) := by rw [ef_]; exact (hm_un (hm_nn hsl hn_q2)).trans h6
      have h9 : f_ q2 = some (ev (0, 0, 0, 0, -1, 0, 0)) := by rw [ef_]; exact hm_us
      refine hm_astE hx hb hK hO hS hH h8 h9 (vp_in_nI hi (by omega)) dX1_init_55 (fun H locs hH hS => ?_)
      obtain ⟨f10, ef10⟩ : ∃ zz_, zz_ = hm_up f_ sl (eN Γ n (va_up g (nI i).toNatClampNeg (some q2))) := ⟨_, rfl⟩
      have hH : hm_H Γ f10 H := by rw [ef10]; exact hH
      have h11 : f10 sl = some (eN Γ n (va_up g (nI i).toNatClampNeg (some q2))) := by rw [ef10]; exact hm_us
      have h12 : f10 c0 = some (eR 1 [.ref sl, .int 0, .int 24, .int 0]) := by rw [ef10]; exact (hm_un (hm_ne h7 h8 (fun q => by cases q))).trans h7
      have h13 : f10 q2 = some (ev (0, 0, 0, 0, -1, 0, 0)) := by rw [ef10]; exact (hm_un (hm_ne h9 h8 (fun q => by cases q))).trans h9
      refine lv_iinc (v := (nI (i + 1))) (lv' := [(2, .int ((nI (i + 1)))), (0, .ref c0), (1, .int (nI n))]) hx hb dX1_init_56 hl (k := 0) rfl (nI_1 i) (by decide) rfl (fun ls hl => ?_)
      refine lv_goto (tgt := 34) hx hb dX1_init_59 (by decide) ?_
      subst ef10
      subst ef_
      subst ef3
      have hcl : (nI i).toNatClampNeg = i := nI_clamp (by omega)
      have hcs : c0 ≠ sl := hm_ne hc hsl (fun q => by cases q)
      have hcq : c0 ≠ q2 := hm_nn hc hn_q2
      have hsq : sl ≠ q2 := hm_nn hsl hn_q2
      have hqs : q2 ≠ sl := Ne.symm hsq
      have hfq : f q2 = none := by
        cases hz : f q2 with
        | none => rfl
        | some e => exact absurd (hkk q2 e (Ne.symm hcq) hz) (by rw [hn_q2]; exact fun z => by cases z)
      refine ih (i + 1) sl _ (fun j => if j = i then q2 else en j) _ (by omega) ((hm_un hcs).trans ((hm_un hcq).trans ((hm_un hcq).trans hc))) hm_us (fun j hj => ?_) (fun a b ha hb hab => ?_) hfs (((hkk.up_ hcq hfq).up_ hcq hfq).up_ hcs hfs) H locs hH hS ls (lv_sub hl [0, 1, 2] rfl)
      · by_cases hji : j = i
        · subst hji
          refine ⟨by rw [hcl, va_up_self, if_pos rfl], ?_, by rw [if_pos rfl]; exact hfq⟩
          rw [if_pos rfl]; exact (hm_un hqs).trans hm_us
        · obtain ⟨g1, g2, g3⟩ := hE j (by omega)
          refine ⟨by rw [hcl, va_up_ne _ _ hji, if_neg hji]; exact g1, ?_, by rw [if_neg hji]; exact g3⟩
          rw [if_neg hji]; exact (hm_un (hm_ne g2 hsl (fun q => by cases q))).trans ((hm_un (hm_nn g2 hn_q2)).trans ((hm_un (hm_nn g2 hn_q2)).trans g2))
      · by_cases h1 : a = i
        · by_cases h2 : b = i
          · omega
          · exact absurd (by simpa [h1, h2] using hab.symm : en b = q2) (hm_nn (hE b (by omega)).2.1 hn_q2)
        · by_cases h2 : b = i
          · exact absurd (by simpa [h1, h2] using hab : en a = q2) (hm_nn (hE a (by omega)).2.1 hn_q2)
          · exact hinj a b (by omega) (by omega) (by simpa [h1, h2] using hab)
  refine lv_aload_n hx hb dX1_init_0 rfl (lv_at hl 0 rfl) ?_
  refine W.objInit hx hb hown (hts _ q1_81) (hts _ q1_48) (hts _ q1_49) rfl (by rw [hml]; exact hl.1) rfl dX1_init_1 (Nat.le_of_ble_eq_true rfl) (Nat.le_of_ble_eq_true rfl) ?_
  refine W.eq (g2 := F0 m 4 ls []) rfl ?_
  refine lv_aload_n hx hb dX1_init_4 rfl (lv_at hl 0 rfl) ?_
  refine lv_iconst (v := 0) hx hb dX1_init_5 (by decide) ?_
  refine pf_X1_9 hx hb hts hown hK hO hS hH hc rfl (Nat.le_of_ble_eq_true rfl) rfl dX1_init_6 (fun H locs hH hS => ?_)
  obtain ⟨f1, ef1⟩ : ∃ zz_, zz_ = hm_up f c0 (eR 1 [.null, .int 0, .int 0, .int 0]) := ⟨_, rfl⟩
  have hH : hm_H Γ f1 H := by rw [ef1]; exact hH
  have h2 : f1 c0 = some (eR 1 [.null, .int 0, .int 0, .int 0]) := by rw [ef1]; exact hm_us
  refine lv_aload_n hx hb dX1_init_9 rfl (lv_at hl 0 rfl) ?_
  refine lv_bipush (v := 24) hx hb dX1_init_10 (by decide) ?_
  refine pf_X1_15 hx hb hts hown hK hO hS hH h2 rfl (Nat.le_of_ble_eq_true rfl) rfl dX1_init_12 (fun H locs hH hS => ?_)
  obtain ⟨f3, ef3⟩ : ∃ zz_, zz_ = hm_up f1 c0 (eR 1 [.null, .int 0, .int 24, .int 0]) := ⟨_, rfl⟩
  have hH : hm_H Γ f3 H := by rw [ef3]; exact hH
  have h4 : f3 c0 = some (eR 1 [.null, .int 0, .int 24, .int 0]) := by rw [ef3]; exact hm_us
  refine lv_aload_n hx hb dX1_init_15 rfl (lv_at hl 0 rfl) ?_
  refine lv_iconst (v := 0) hx hb dX1_init_16 (by decide) ?_
  refine pf_X1_18 hx hb hts hown hK hO hS hH h4 rfl (Nat.le_of_ble_eq_true rfl) rfl dX1_init_17 (fun H locs hH hS => ?_)
  obtain ⟨f5, ef5⟩ : ∃ zz_, zz_ = hm_up f3 c0 (eR 1 [.null, .int 0, .int 24, .int 0]) := ⟨_, rfl⟩
  have hH : hm_H Γ f5 H := by rw [ef5]; exact hH
  have h6 : f5 c0 = some (eR 1 [.null, .int 0, .int 24, .int 0]) := by rw [ef5]; exact hm_us
  refine lv_aload_n hx hb dX1_init_20 rfl (lv_at hl 0 rfl) ?_
  refine lv_iload_n hx hb dX1_init_21 rfl (lv_at hl 1 rfl) ?_
  refine lv_iconst (v := 0) hx hb dX1_init_22 (by decide) ?_
  refine hm_max (rest := [.ref c0]) hx hb hml hl.1 hown hts q1_82 (Nat.le_of_ble_eq_true rfl) (Nat.le_of_ble_eq_true rfl) (by show _ ≤ 1 + n; omega) (by show _ ≤ n + 7 * n; omega) dX1_init_23 ?_
  refine lv_topi (fun v7 ev7 => ?_)
  replace ev7 : v7 = nI n := ev7.trans (mxI_0 (by omega))
  subst ev7
  refine hm_newE hx hb hts hown q1_85 hK hO hS hH (N' := n) (nI_pos (by omega)) (nI_clamp (by omega)) (by omega) (by show _ ≤ 1 + n; omega) (by show _ ≤ n + 7 * n; omega) dX1_init_26 (fun q8 H hH hn_q8 hb_q8 hS => ?_)
  have hc3_ := h6
  obtain ⟨f9, ef9⟩ : ∃ zz_, zz_ = hm_up f5 q8 (eN Γ n (fun _ => none)) := ⟨_, rfl⟩
  have hH : hm_H Γ f9 H := by rw [ef9]; exact hH
  have h10 : f9 q8 = some (eN Γ n (fun _ => none)) := by rw [ef9]; exact hm_us
  have h11 : f9 c0 = some (eR 1 [.null, .int 0, .int 24, .int 0]) := by rw [ef9]; exact (hm_un (hm_nn h6 hn_q8)).trans h6
  refine pF_X1_29 hx hb hts hown hin hK hO hS hH h11 rfl (Nat.le_of_ble_eq_true rfl) rfl dX1_init_29 (fun H locs hH hS => ?_)
  obtain ⟨f12, ef12⟩ : ∃ zz_, zz_ = hm_up f9 c0 (eR 1 [.ref q8, .int 0, .int 24, .int 0]) := ⟨_, rfl⟩
  have hH : hm_H Γ f12 H := by rw [ef12]; exact hH
  have h13 : f12 c0 = some (eR 1 [.ref q8, .int 0, .int 24, .int 0]) := by rw [ef12]; exact hm_us
  have h14 : f12 q8 = some (eN Γ n (fun _ => none)) := by rw [ef12]; exact (hm_un (hm_ne h10 h11 (fun q => by cases q))).trans h10
  refine lv_iconst (v := 0) hx hb dX1_init_32 (by decide) ?_
  refine lv_istore_n (lv' := [(2, .int 0), (0, .ref c0), (1, .int (nI n))]) hx hb dX1_init_33 rfl hl (by decide) rfl (fun ls hl => ?_)
  subst ef12
  subst ef9
  subst ef5
  subst ef3
  subst ef1
  have hcq : c0 ≠ q8 := hm_nn hc3_ hn_q8
  have hfq : f q8 = none := by
    cases hz : f q8 with
    | none => rfl
    | some e => exact absurd ((hm_un (Ne.symm hcq)).trans ((hm_un (Ne.symm hcq)).trans ((hm_un (Ne.symm hcq)).trans hz))) (by rw [hn_q8]; exact fun z => by cases z)
  exact loop n 0 q8 _ (fun _ => 0) _ (by omega) hm_us ((hm_un (Ne.symm hcq)).trans hm_us) (fun j hj => absurd hj (Nat.not_lt_zero _)) (fun a b ha => absurd ha (Nat.not_lt_zero _)) hfq ((((((hm_k.rf (S := fun q => q = c0)).up rfl).up rfl).up rfl).upN hfq).up rfl) H locs hH hS ls (lv_sub hl [0, 1, 2] rfl)
section LK2
variable {p : Program} {l : Launch} {e : Env} {R : Room} {s : State} {m : MethodId} {args : Array Value} {below : List Frame} {meth : Method} {c : Code} {H : Heap} {locs : List Loc} {cells slots : Nat} {Q : State → Prop} {cc : ByteArray} {pc nL : Nat} {ls : Array Slot} {rest : List Value} {Γ : Gm} {f : Hm} {a : Nat} {fs : List Value} {v : Value}
theorem pf_Jxc12de_7 (hx : p.tables.exec = Jvm.exec) (hb : c.code = cc) (hts : ∀ w ∈ lwG, w.before args s = true) (hown : s.vm.findClass RJxc12de = some m.cls) (hK : KK Γ s) (hO : hm_O Γ s.heap) (hS : va_S (gA Γ) s.heap H locs) (hH : hm_H Γ f H) (ha : f a = some (eR 0 fs)) (hn : narrow .int v = v) (hl : 0 < fs.length) (hfit : fits .int v = true) (hdg : decode cc pc = .ok (.putfield 7, 3)) (kk : ∀ (H1 : Heap) (locs1 : List Loc), hm_H Γ (hm_up f a (eR 0 (fs.set 0 v))) H1 → va_S (gA Γ) s.heap H1 locs1 → W p l e R s m args below meth c H1 locs1 cells slots Q (F0 m (pc + 3) ls rest)) : W p l e R s m args below meth c H locs cells slots Q (F0 m pc ls (v :: .ref a :: rest)) :=
  hm_put hx hb hts inJx4a65c tyJx4a65c tyJx4a65c_ok nmJx4a65c hown hK hO hS hH ha rfl 0 (by decide) (hts _ q1_66) (fun _ h => h) rfl (by decide +kernel) hn hfit hl hdg kk
theorem hm_ldcM (hx : p.tables.exec = Jvm.exec) (hb : c.code = cc) (hts : ∀ w ∈ lwG, w.before args s = true) (hown : s.vm.findClass "java/util/Arrays" = some m.cls) (hK : KK Γ s) (hdg : decode cc pc = .ok (.ldc 110, 2))
    (k : W p l e R s m args below meth c H locs cells slots Q (F0 m (pc + 2) ls (.ref (gC Γ 6) :: rest))) : W p l e R s m args below meth c H locs cells slots Q (F0 m pc ls rest) :=
  va_ldcM hx hb hown (hts _ q2_170) hK.2.2.2.2.2.2.1 hdg k
theorem hm_getC (hx : p.tables.exec = Jvm.exec) (hb : c.code = cc) (hml : c.maxLocals = nL) (hsz : ls.size = nL) (hts : ∀ w ∈ lwG, w.before args s = true) (hown : s.vm.findClass "java/util/Arrays" = some m.cls) (hK : KK Γ s) (hH : hm_H Γ f H) {n : Nat} {g : Nat → Option Nat} (ha : f a = some (eO Γ n g)) (hframes : 1 ≤ R.frames) (hlocals : (rest.map fun v => v.category).sum + 14 ≤ R.locals) (hdg : decode cc pc = .ok (.invokevirtual 86, 3))
    (k : W p l e R s m args below meth c H locs cells slots Q (F0 m (pc + 3) ls (.ref (gC Γ 6) :: rest))) : W p l e R s m args below meth c H locs cells slots Q (F0 m pc ls (.ref a :: rest)) := by
  have hA : s.vm.findClass "[Ljava/lang/Object;" = some (gC Γ 4) := va_nmO (hK.1.2 4 (gC Γ 4, .object "java/lang/Object") rfl).2 (by decide +kernel)
  have hcell : ∃ cell : Cell, H[a]? = some cell ∧ cell.vm.isStatics = false ∧ s.vm.findClass "[Ljava/lang/Object;" = some cell.cls := by
    by_cases ea : a = gE Γ
    · obtain ⟨ce, h1, h2, h3, -⟩ := (hH.1 a _ ha).1.2 ea
      exact ⟨ce, h1, h3, by rw [h2]; exact hA⟩
    · exact ⟨_, (hH.1 a _ ha).1.1 ea, rfl, hA⟩
  exact va_getC hx hb (hml.trans hsz.symm) hown (hts _ q2_143) (va_Nw.use rfl (hK.2.2.1.2.1 _ (by decide))) (hts _ q8_23) (hts _ q2_144) (hts _ q2_166) hK.2.2.2.2.2.2.1 hcell hframes hlocals hdg k
end LK2
def pR (a : Nat) (f : Hm) : Option Value → Hm → Prop := fun v f' => v = some (.ref a) ∧ f' = f
/-- an object that an Object[] may hold -/
def isO (f : Hm) (y : Nat) : Prop := ∃ (ci : Nat) (vs : List Value) (r : vw_C), f y = some (eR ci vs) ∧ hcl[ci]? = some r ∧ (r.1, "java/lang/Object") ∈ zC
theorem isO.up {f : Hm} {y a ci : Nat} {vs : List Value} {r : vw_C} (h : isO f y) (hc : hcl[ci]? = some r) (hz : (r.1, "java/lang/Object") ∈ zC) : isO (hm_up f a (eR ci vs)) y := by
  by_cases q : y = a
  · rw [q]; exact ⟨ci, vs, r, hm_us, hc, hz⟩
  · obtain ⟨c, w, r', h1, h2, h3⟩ := h
    exact ⟨c, w, r', (hm_un q).trans h1, h2, h3⟩
/-- the list at a with its array at ar of cap places holds n references L -/
def LI (Γ : Gm) (f : Hm) (a ar cap n : Nat) (L : Nat → Nat) : Prop :=
  (∃ mo : Int32, f a = some (eR 0 [.int mo, .ref ar, .int (nI n)])) ∧ (∃ g : Nat → Option Nat, f ar = some (eO Γ cap g) ∧ (∀ i, i < n → g i = some (L i)) ∧ ∀ i, n ≤ i → g i = none) ∧ n ≤ cap ∧ (cap = 0 ∧ ar = gE Γ ∨ 0 < cap ∧ gB Γ ≤ ar)
def oL (Γ : Gm) (a ar : Nat) : Nat → Prop := fun q => q = a ∨ q = ar ∧ gB Γ ≤ ar
theorem LI.kp {Γ : Gm} {f f' : Hm} {S : Nat → Prop} {a ar cap n : Nat} {L : Nat → Nat} (h : LI Γ f a ar cap n L) (hf : hm_k S f f') (h1 : ¬ S a) (h2 : ¬ S ar) : LI Γ f' a ar cap n L := by
  obtain ⟨⟨mo, g1⟩, ⟨g, g2, g3⟩, g4⟩ := h
  exact ⟨⟨mo, hf _ _ h1 g1⟩, ⟨g, hf _ _ h2 g2, g3⟩, g4⟩
def capN (c : Nat) : Nat := if c = 0 then 10 else c + max 1 (c / 2)
def gG (g : Nat → Option Nat) (n : Nat) : Nat → Option Nat := va_cpy g (fun _ => none) 0 0 n
theorem gG_in {g : Nat → Option Nat} {n i : Nat} (h : i < n) : gG g n i = g i := by
  unfold gG va_cpy
  rw [if_pos ⟨Nat.zero_le _, by omega⟩]
  congr 1; omega
theorem gG_out {g : Nat → Option Nat} {n i : Nat} (h : n ≤ i) : gG g n i = none := by
  unfold gG va_cpy
  rw [if_neg (by omega)]
theorem gG_0 {g : Nat → Option Nat} : gG g 0 = fun _ => none := funext fun _ => gG_out (Nat.zero_le _)
theorem lst_half : ∀ c : Nat, c < 91 → nI c >>> ((1 : Int32) &&& 31) = nI (c / 2) := by decide +kernel
set_option maxHeartbeats 4000000 in
set_option maxRecDepth 100000 in
theorem c_J3_chk (Γ : Gm) (l : Launch) (i n : Nat) (f : Hm) (hi : i < n) (hn : n < 2 ^ 31) : Ct Γ l yJ3_checkIndex_8e157 cJ3_checkIndex_8e157 3 (some .int) 1 0 0 [.int (nI i), .int (nI n), .null] f (pI (nI i) f) := by
  refine Ct_of (by decide +kernel) (Nat.le_of_ble_eq_true rfl) ?_
  intro p e s m args below meth c hx hb hr hml hown hin hlocks hts hH hO hK ls hl
  have hl : lv_has ls 3 [(0, .int (nI i)), (1, .int (nI n)), (2, .null)] := hl
  have hS : va_S (gA Γ) s.heap s.heap [] := va_S.rf
  refine lv_iload_n hx hb dJ3_checkIndex_8e157_0 rfl (lv_at hl 0 rfl) ?_
  refine lv_if_lt (tgt := 9) hx hb dJ3_checkIndex_8e157_1 (by decide) (fun c1 => absurd c1 (nI_pos (by omega))) (fun _ => ?_)
  refine lv_iload_n hx hb dJ3_checkIndex_8e157_4 rfl (lv_at hl 0 rfl) ?_
  refine lv_iload_n hx hb dJ3_checkIndex_8e157_5 rfl (lv_at hl 1 rfl) ?_
  refine lv_icmp_lt (tgt := 16) hx hb dJ3_checkIndex_8e157_6 (by decide) (fun _ => ?_) (fun c2 => absurd (nI_lt hi hn) c2)
  refine lv_iload_n hx hb dJ3_checkIndex_8e157_16 rfl (lv_at hl 0 rfl) ?_
  exact hm_iret hx hb hr hlocks hS hH (pI_of (rfl)) (Nat.le_of_ble_eq_true rfl) (Nat.le_of_ble_eq_true rfl) dJ3_checkIndex_8e157_17
set_option maxHeartbeats 4000000 in
set_option maxRecDepth 100000 in
theorem c_J15_chk (Γ : Gm) (l : Launch) (i n : Nat) (f : Hm) (hi : i < n) (hn : n < 2 ^ 31) : Ct Γ l yJ15_checkIndex_7cf53 cJ15_checkIndex_7cf53 2 (some .int) 2 0 0 [.int (nI i), .int (nI n)] f (pI (nI i) f) := by
  refine Ct_of (by decide +kernel) (Nat.le_of_ble_eq_true rfl) ?_
  intro p e s m args below meth c hx hb hr hml hown hin hlocks hts hH hO hK ls hl
  have hl : lv_has ls 2 [(0, .int (nI i)), (1, .int (nI n))] := hl
  have hS : va_S (gA Γ) s.heap s.heap [] := va_S.rf
  refine lv_iload_n hx hb dJ15_checkIndex_7cf53_0 rfl (lv_at hl 0 rfl) ?_
  refine lv_iload_n hx hb dJ15_checkIndex_7cf53_1 rfl (lv_at hl 1 rfl) ?_
  refine lv_null hx hb dJ15_checkIndex_7cf53_2 ?_
  refine hm_callS (rest := []) (k := 1) q2_236 q2_237 q1_22 q2_238 nm_J3_checkIndex_8e157 rfl hx hb hml hown hts hK hO hS hH hl.1 (c_J3_chk Γ l i n f hi hn) ⟨Nat.le_of_ble_eq_true rfl, Nat.le_of_ble_eq_true rfl⟩ ⟨Nat.le_of_ble_eq_true rfl, Nat.le_of_ble_eq_true rfl⟩ rfl (Nat.le_of_ble_eq_true rfl) dJ15_checkIndex_7cf53_3 (fun v_ f_ H locs hp_ hH hS => ?_)
  obtain ⟨rfl, ef_⟩ := hp_
  rw [ef_] at hH
  clear ef_
  refine W.eq (g2 := F0 m 6 ls [.int (nI i)]) rfl ?_
  exact hm_iret hx hb hr hlocks hS hH (pI_of (rfl)) (Nat.le_of_ble_eq_true rfl) (Nat.le_of_ble_eq_true rfl) dJ15_checkIndex_7cf53_6
set_option maxHeartbeats 4000000 in
set_option maxRecDepth 100000 in
theorem c_size (Γ : Gm) (l : Launch) (a ar cap n : Nat) (L : Nat → Nat) (f : Hm) (hL : LI Γ f a ar cap n L) : Ct Γ l yJx4a65c_size_8abf5 cJx4a65c_size_8abf5 1 (some .int) 1 0 0 [.ref a] f (pI (nI n) f) := by
  refine Ct_of (by decide +kernel) (Nat.le_of_ble_eq_true rfl) ?_
  intro p e s m args below meth c hx hb hr hml hown hin hlocks hts hH hO hK ls hl
  have hl : lv_has ls 1 [(0, .ref a)] := hl
  have hS : va_S (gA Γ) s.heap s.heap [] := va_S.rf
  obtain ⟨⟨mo, ha⟩, ⟨g, hg, hg1, hg2⟩, hcap, har⟩ := id hL
  refine lv_aload_n hx hb dJx4a65c_size_8abf5_0 rfl (lv_at hl 0 rfl) ?_
  refine gf_Jx4a65c_48 hx hb hts hown hK hH ha rfl dJx4a65c_size_8abf5_1 ?_
  exact hm_iret hx hb hr hlocks hS hH (pI_of (rfl)) (Nat.le_of_ble_eq_true rfl) (Nat.le_of_ble_eq_true rfl) dJx4a65c_size_8abf5_4
set_option maxHeartbeats 4000000 in
set_option maxRecDepth 100000 in
theorem c_elemD (Γ : Gm) (l : Launch) (a ar cap n : Nat) (L : Nat → Nat) (i : Nat) (f : Hm) (hL : LI Γ f a ar cap n L) (hi : i < n) (hc : cap < 2 ^ 31) : Ct Γ l yJx4a65c_elementData_915e3 cJx4a65c_elementData_915e3 2 (some (.object "java/lang/Object")) 1 0 0 [.ref a, .int (nI i)] f (pR (L i) f) := by
  refine Ct_of (by decide +kernel) (Nat.le_of_ble_eq_true rfl) ?_
  intro p e s m args below meth c hx hb hr hml hown hin hlocks hts hH hO hK ls hl
  have hl : lv_has ls 2 [(0, .ref a), (1, .int (nI i))] := hl
  have hS : va_S (gA Γ) s.heap s.heap [] := va_S.rf
  obtain ⟨⟨mo, ha⟩, ⟨g, hg, hg1, hg2⟩, hcap, har⟩ := id hL
  refine lv_aload_n hx hb dJx4a65c_elementData_915e3_0 rfl (lv_at hl 0 rfl) ?_
  refine gf_Jx4a65c_9 hx hb hts hown hK hH ha rfl dJx4a65c_elementData_915e3_1 ?_
  refine lv_iload_n hx hb dJx4a65c_elementData_915e3_4 rfl (lv_at hl 1 rfl) ?_
  refine hm_naldO hx hb hK hH hg (vp_in_nI (Nat.lt_of_lt_of_le hi hcap) hc) dJx4a65c_elementData_915e3_5 ?_
  refine W.eq (g2 := F0 m 6 ls (.ref ((L i)) :: [])) (congrArg (fun x_ => F0 m 6 ls (x_ :: [])) (by rw [nI_clamp (by omega), hg1 i hi]; rfl)) ?_
  exact hm_aret hx hb hr (Or.inl ⟨_, rfl⟩) (Or.inr ⟨_, rfl⟩) hlocks hS hH (⟨rfl, rfl⟩) (Nat.le_of_ble_eq_true rfl) (Nat.le_of_ble_eq_true rfl) dJx4a65c_elementData_915e3_6
set_option maxHeartbeats 4000000 in
set_option maxRecDepth 100000 in
theorem c_get (Γ : Gm) (l : Launch) (a ar cap n : Nat) (L : Nat → Nat) (i : Nat) (f : Hm) (hL : LI Γ f a ar cap n L) (hi : i < n) (hc : cap < 2 ^ 31) : Ct Γ l yJx4a65c_get_915e3 cJx4a65c_get_915e3 2 (some (.object "java/lang/Object")) 3 0 0 [.ref a, .int (nI i)] f (pR (L i) f) := by
  refine Ct_of (by decide +kernel) (Nat.le_of_ble_eq_true rfl) ?_
  intro p e s m args below meth c hx hb hr hml hown hin hlocks hts hH hO hK ls hl
  have hl : lv_has ls 2 [(0, .ref a), (1, .int (nI i))] := hl
  have hS : va_S (gA Γ) s.heap s.heap [] := va_S.rf
  obtain ⟨⟨mo, ha⟩, ⟨g, hg, hg1, hg2⟩, hcap, har⟩ := id hL
  refine lv_iload_n hx hb dJx4a65c_get_915e3_0 rfl (lv_at hl 1 rfl) ?_
  refine lv_aload_n hx hb dJx4a65c_get_915e3_1 rfl (lv_at hl 0 rfl) ?_
  refine gf_Jx4a65c_48 hx hb hts hown hK hH ha rfl dJx4a65c_get_915e3_2 ?_
  refine hm_callS (rest := []) (k := 2) q2_233 q2_234 q1_21 q2_235 nm_J15_checkIndex_7cf53 rfl hx hb hml hown hts hK hO hS hH hl.1 (c_J15_chk Γ l i n f hi (by omega)) ⟨Nat.le_of_ble_eq_true rfl, Nat.le_of_ble_eq_true rfl⟩ ⟨Nat.le_of_ble_eq_true rfl, Nat.le_of_ble_eq_true rfl⟩ rfl (Nat.le_of_ble_eq_true rfl) dJx4a65c_get_915e3_5 (fun v_ f_ H locs hp_ hH hS => ?_)
  obtain ⟨rfl, ef_⟩ := hp_
  rw [ef_] at hH
  clear ef_
  refine W.eq (g2 := F0 m 8 ls [.int (nI i)]) rfl ?_
  refine lv_pop hx hb dJx4a65c_get_915e3_8 rfl ?_
  refine lv_aload_n hx hb dJx4a65c_get_915e3_9 rfl (lv_at hl 0 rfl) ?_
  refine lv_iload_n hx hb dJx4a65c_get_915e3_10 rfl (lv_at hl 1 rfl) ?_
  refine hm_callV (rest := []) (k := 1) q2_239 q3_0 q1_4 q3_2 q3_1 rfl nm_Jx4a65c_elementData_915e3 rfl hx hb hml hown hts hK hO hS hH hl.1 ha (c_elemD Γ l a ar cap n L i f hL hi hc) ⟨Nat.le_of_ble_eq_true rfl, Nat.le_of_ble_eq_true rfl⟩ ⟨Nat.le_of_ble_eq_true rfl, Nat.le_of_ble_eq_true rfl⟩ rfl (Nat.le_of_ble_eq_true rfl) dJx4a65c_get_915e3_11 (fun v_ f_ H locs hp_ hH hS => ?_)
  obtain ⟨rfl, ef_⟩ := hp_
  rw [ef_] at hH
  clear ef_
  refine W.eq (g2 := F0 m 14 ls [.ref (L i)]) rfl ?_
  exact hm_aret hx hb hr (Or.inl ⟨_, rfl⟩) (Or.inr ⟨_, rfl⟩) hlocks hS hH (⟨rfl, rfl⟩) (Nat.le_of_ble_eq_true rfl) (Nat.le_of_ble_eq_true rfl) dJx4a65c_get_915e3_14
set_option maxHeartbeats 4000000 in
set_option maxRecDepth 100000 in
theorem c_AC_init (Γ : Gm) (l : Launch) (a : Nat) (f : Hm) : Ct Γ l yJxa1e45_init_da8c8 cJxa1e45_init_da8c8 1 (none : Option Jvm.ClassFile.FieldType) 1 0 0 [.ref a] f (pV f) := by
  refine Ct_of (by decide +kernel) (Nat.le_of_ble_eq_true rfl) ?_
  intro p e s m args below meth c hx hb hr hml hown hin hlocks hts hH hO hK ls hl
  have hl : lv_has ls 1 [(0, .ref a)] := hl
  have hS : va_S (gA Γ) s.heap s.heap [] := va_S.rf
  refine lv_aload_n hx hb dJxa1e45_init_da8c8_0 rfl (lv_at hl 0 rfl) ?_
  refine W.objInit hx hb hown (hts _ q1_61) (hts _ q1_48) (hts _ q1_49) rfl (by rw [hml]; exact hl.1) rfl dJxa1e45_init_da8c8_1 (Nat.le_of_ble_eq_true rfl) (Nat.le_of_ble_eq_true rfl) ?_
  refine W.eq (g2 := F0 m 4 ls []) rfl ?_
  exact hm_vret hx hb hr hlocks hS hH (⟨rfl, rfl⟩) (Nat.le_of_ble_eq_true rfl) (Nat.le_of_ble_eq_true rfl) dJxa1e45_init_da8c8_4
set_option maxHeartbeats 4000000 in
set_option maxRecDepth 100000 in
theorem c_AL_init (Γ : Gm) (l : Launch) (a : Nat) (x z : Int32) (r : Value) (f : Hm) (ha : f a = some (eR 0 [.int x, r, .int z])) : Ct Γ l yJxc12de_init_da8c8 cJxc12de_init_da8c8 1 (none : Option Jvm.ClassFile.FieldType) 2 0 0 [.ref a] f (pV (hm_up f a (eR 0 [.int 0, r, .int z]))) := by
  refine Ct_of (by decide +kernel) (Nat.le_of_ble_eq_true rfl) ?_
  intro p e s m args below meth c hx hb hr hml hown hin hlocks hts hH hO hK ls hl
  have hl : lv_has ls 1 [(0, .ref a)] := hl
  have hS : va_S (gA Γ) s.heap s.heap [] := va_S.rf
  refine lv_aload_n hx hb dJxc12de_init_da8c8_0 rfl (lv_at hl 0 rfl) ?_
  refine hm_callI (rest := []) (k := 1) q1_58 q1_59 q1_2 q1_60 nm_Jxa1e45_init_da8c8 rfl rfl hx hb hml hown hts hK hO hS hH hl.1 (c_AC_init Γ l a f) ⟨Nat.le_of_ble_eq_true rfl, Nat.le_of_ble_eq_true rfl⟩ ⟨Nat.le_of_ble_eq_true rfl, Nat.le_of_ble_eq_true rfl⟩ rfl (Nat.le_of_ble_eq_true rfl) dJxc12de_init_da8c8_1 (fun v_ f_ H locs hp_ hH hS => ?_)
  obtain ⟨rfl, ef_⟩ := hp_
  rw [ef_] at hH
  clear ef_
  refine W.eq (g2 := F0 m 4 ls []) rfl ?_
  refine lv_aload_n hx hb dJxc12de_init_da8c8_4 rfl (lv_at hl 0 rfl) ?_
  refine lv_iconst (v := 0) hx hb dJxc12de_init_da8c8_5 (by decide) ?_
  refine pf_Jxc12de_7 hx hb hts hown hK hO hS hH ha rfl (Nat.le_of_ble_eq_true rfl) rfl dJxc12de_init_da8c8_6 (fun H locs hH hS => ?_)
  obtain ⟨f1, ef1⟩ : ∃ zz_, zz_ = hm_up f a (eR 0 [.int 0, r, .int z]) := ⟨_, rfl⟩
  have hH : hm_H Γ f1 H := by rw [ef1]; exact hH
  have h2 : f1 a = some (eR 0 [.int 0, r, .int z]) := by rw [ef1]; exact hm_us
  subst ef1
  exact hm_vret hx hb hr hlocks hS hH (⟨rfl, rfl⟩) (Nat.le_of_ble_eq_true rfl) (Nat.le_of_ble_eq_true rfl) dJxc12de_init_da8c8_9
set_option maxHeartbeats 4000000 in
set_option maxRecDepth 100000 in
theorem c_L_init (Γ : Gm) (l : Launch) (a : Nat) (f : Hm) (ha : f a = some (eR 0 [.int 0, .null, .int 0])) : Ct Γ l yJx4a65c_init_da8c8 cJx4a65c_init_da8c8 1 (none : Option Jvm.ClassFile.FieldType) 3 0 0 [.ref a] f (pV (hm_up f a (eR 0 [.int 0, .ref (gE Γ), .int 0]))) := by
  refine Ct_of (by decide +kernel) (Nat.le_of_ble_eq_true rfl) ?_
  intro p e s m args below meth c hx hb hr hml hown hin hlocks hts hH hO hK ls hl
  have hl : lv_has ls 1 [(0, .ref a)] := hl
  have hS : va_S (gA Γ) s.heap s.heap [] := va_S.rf
  refine lv_aload_n hx hb dJx4a65c_init_da8c8_0 rfl (lv_at hl 0 rfl) ?_
  refine hm_callI (rest := []) (k := 2) q1_55 q1_56 q1_3 q1_57 nm_Jxc12de_init_da8c8 rfl rfl hx hb hml hown hts hK hO hS hH hl.1 (c_AL_init Γ l a 0 0 .null f ha) ⟨Nat.le_of_ble_eq_true rfl, Nat.le_of_ble_eq_true rfl⟩ ⟨Nat.le_of_ble_eq_true rfl, Nat.le_of_ble_eq_true rfl⟩ rfl (Nat.le_of_ble_eq_true rfl) dJx4a65c_init_da8c8_1 (fun v_ f_ H locs hp_ hH hS => ?_)
  obtain ⟨rfl, ef_⟩ := hp_
  have ha2 : f_ a = some (eR 0 [.int 0, .null, .int 0]) := by rw [ef_]; exact hm_us
  refine W.eq (g2 := F0 m 4 ls []) rfl ?_
  refine lv_aload_n hx hb dJx4a65c_init_da8c8_4 rfl (lv_at hl 0 rfl) ?_
  refine hm_getsE hx hb hts hown hK hO hS dJx4a65c_init_da8c8_5 ?_
  refine pf_Jx4a65c_9 hx hb hts hown hK hO hS hH ha2 rfl (Nat.le_of_ble_eq_true rfl) rfl dJx4a65c_init_da8c8_8 (fun H locs hH hS => ?_)
  obtain ⟨f1, ef1⟩ : ∃ zz_, zz_ = hm_up f_ a (eR 0 [.int 0, .ref (gE Γ), .int 0]) := ⟨_, rfl⟩
  have hH : hm_H Γ f1 H := by rw [ef1]; exact hH
  have h2 : f1 a = some (eR 0 [.int 0, .ref (gE Γ), .int 0]) := by rw [ef1]; exact hm_us
  subst ef1
  subst ef_
  exact hm_vret hx hb hr hlocks hS hH (⟨rfl, by simp only [hm_uu]⟩) (Nat.le_of_ble_eq_true rfl) (Nat.le_of_ble_eq_true rfl) dJx4a65c_init_da8c8_11
set_option maxHeartbeats 4000000 in
set_option maxRecDepth 100000 in
theorem c_newLength (Γ : Gm) (l : Launch) (o mi pr : Nat) (f : Hm) (h0 : 0 < mi) (h1 : o + mi ≤ 200) (h2 : o + pr ≤ 200) : Ct Γ l yJ8_newLength_cabcc cJ8_newLength_cabcc 4 (some .int) 1 0 0 [.int (nI o), .int (nI mi), .int (nI pr)] f (pI (nI (o + max mi pr)) f) := by
  refine Ct_of (by decide +kernel) (Nat.le_of_ble_eq_true rfl) ?_
  intro p e s m args below meth c hx hb hr hml hown hin hlocks hts hH hO hK ls hl
  have hl : lv_has ls 4 [(0, .int (nI o)), (1, .int (nI mi)), (2, .int (nI pr))] := hl
  have hS : va_S (gA Γ) s.heap s.heap [] := va_S.rf
  refine lv_iload_n hx hb dJ8_newLength_cabcc_0 rfl (lv_at hl 0 rfl) ?_
  refine lv_iload_n hx hb dJ8_newLength_cabcc_1 rfl (lv_at hl 1 rfl) ?_
  refine lv_iload_n hx hb dJ8_newLength_cabcc_2 rfl (lv_at hl 2 rfl) ?_
  refine hm_max (rest := [.int (nI o)]) hx hb hml hl.1 hown hts q2_135 (Nat.le_of_ble_eq_true rfl) (Nat.le_of_ble_eq_true rfl) (by first | exact Nat.le_of_ble_eq_true rfl | omega) (by first | exact Nat.le_of_ble_eq_true rfl | omega) dJ8_newLength_cabcc_3 ?_
  refine lv_topi (fun v1 ev1 => ?_)
  replace ev1 : v1 = nI (max mi pr) := ev1.trans (mxI_n (by omega) (by omega))
  subst ev1
  refine lv_iadd hx hb dJ8_newLength_cabcc_6 ?_
  refine lv_topi (fun v2 ev2 => ?_)
  replace ev2 : v2 = nI (o + max mi pr) := ev2.trans (nI_add _ _)
  subst ev2
  refine lv_istore_n (lv' := [(3, .int (nI (o + max mi pr))), (0, .int (nI o)), (1, .int (nI mi)), (2, .int (nI pr))]) hx hb dJ8_newLength_cabcc_7 rfl hl (by decide) rfl (fun ls hl => ?_)
  refine lv_iconst (v := 0) hx hb dJ8_newLength_cabcc_8 (by decide) ?_
  refine lv_iload_n hx hb dJ8_newLength_cabcc_9 rfl (lv_at hl 0 rfl) ?_
  refine lv_icmp_ge (tgt := 21) hx hb dJ8_newLength_cabcc_10 (by decide) (fun c3 => absurd c3 (nI_nle (by omega) (by omega))) (fun _ => ?_)
  refine lv_iload_n hx hb dJ8_newLength_cabcc_13 rfl (lv_at hl 0 rfl) ?_
  refine lv_ldc (v := 2147483639) hx hb hown (hts _ q2_136) dJ8_newLength_cabcc_14 ?_
  refine lv_icmp_gt (tgt := 21) hx hb dJ8_newLength_cabcc_16 (by decide) (fun c4 => absurd c4 (fun q => absurd (Int32.lt_iff_toInt_lt.mp q) (by rw [nI_toInt (by omega), show (2147483639 : Int32).toInt = 2147483639 from by decide +kernel]; omega))) (fun _ => ?_)
  refine lv_iload_n hx hb dJ8_newLength_cabcc_19 rfl (lv_at hl 0 rfl) ?_
  exact hm_iret hx hb hr hlocks hS hH (pI_of (rfl)) (Nat.le_of_ble_eq_true rfl) (Nat.le_of_ble_eq_true rfl) dJ8_newLength_cabcc_20
set_option maxHeartbeats 4000000 in
set_option maxRecDepth 100000 in
theorem c_copyOf3 (Γ : Gm) (l : Launch) (ar cap N : Nat) (g : Nat → Option Nat) (f : Hm) (hg : f ar = some (eO Γ cap g)) (hb0 : gB Γ ≤ ar) (hcN : cap ≤ N) (hN : N ≤ 90) (hel : ∀ i, i < cap → ∀ y, g i = some y → isO f y) : Ct Γ l yJ7_copyOf_6403c cJ7_copyOf_6403c 4 (some (.array (.object "java/lang/Object"))) 1 1 90 [.ref ar, .int (nI N), .ref ((gC Γ 6))] f (fun v f' => ∃ q, v = some (.ref q) ∧ f q = none ∧ gB Γ ≤ q ∧ f' = hm_up f q (eO Γ N (gG g cap))) := by
  refine Ct_of (by decide +kernel) (Nat.le_of_ble_eq_true rfl) ?_
  intro p e s m args below meth c hx hb hr hml hown hin hlocks hts hH hO hK ls hl
  have hl : lv_has ls 4 [(0, .ref ar), (1, .int (nI N)), (2, .ref ((gC Γ 6)))] := hl
  have hS : va_S (gA Γ) s.heap s.heap [] := va_S.rf
  refine lv_aload_n hx hb dJ7_copyOf_6403c_0 rfl (lv_at hl 2 rfl) ?_
  refine hm_ldcM hx hb hts hown hK dJ7_copyOf_6403c_1 ?_
  refine lv_acmp_ne (rx := some ((gC Γ 6))) (ry := some ((gC Γ 6))) (tgt := 13) hx hb dJ7_copyOf_6403c_3 (by decide) (fun c1 => ?_) (fun c1 => ?_)
  · exact absurd (rfl) c1
  · refine lv_iload_n hx hb dJ7_copyOf_6403c_6 rfl (lv_at hl 1 rfl) ?_
    refine hm_newO hx hb hts hown q2_172 hK hO hS hH (N' := N) (nI_pos (by omega)) (nI_clamp (by omega)) (by omega) (Nat.le_of_ble_eq_true rfl) (by show _ ≤ 90; omega) dJ7_copyOf_6403c_7 (fun q2 H hH hn_q2 hb_q2 hS => ?_)
    obtain ⟨f3, ef3⟩ : ∃ zz_, zz_ = hm_up f q2 (eO Γ N (fun _ => none)) := ⟨_, rfl⟩
    have hH : hm_H Γ f3 H := by rw [ef3]; exact hH
    have h4 : f3 q2 = some (eO Γ N (fun _ => none)) := by rw [ef3]; exact hm_us
    have h5 : f3 ar = some (eO Γ cap g) := by rw [ef3]; exact (hm_un (hm_nn hg hn_q2)).trans hg
    refine lv_goto (tgt := 24) hx hb dJ7_copyOf_6403c_10 (by decide) ?_
    refine lv_astore_n (lv' := [(3, .ref q2), (0, .ref ar), (1, .int (nI N)), (2, .ref ((gC Γ 6)))]) hx hb dJ7_copyOf_6403c_24 rfl hl (by decide) rfl (fun ls hl => ?_)
    refine lv_aload_n hx hb dJ7_copyOf_6403c_25 rfl (lv_at hl 1 rfl) ?_
    refine lv_iconst (v := 0) hx hb dJ7_copyOf_6403c_26 (by decide) ?_
    refine lv_aload_n hx hb dJ7_copyOf_6403c_27 rfl (lv_at hl 0 rfl) ?_
    refine lv_iconst (v := 0) hx hb dJ7_copyOf_6403c_28 (by decide) ?_
    refine lv_aload_n hx hb dJ7_copyOf_6403c_29 rfl (lv_at hl 1 rfl) ?_
    refine hm_alen (v := nI cap) hx hb hK hH 4 h5 rfl rfl dJ7_copyOf_6403c_30 ?_
    refine lv_iload_n hx hb dJ7_copyOf_6403c_31 rfl (lv_at hl 2 rfl) ?_
    refine hm_min (rest := [.int 0, .ref q2, .int 0, .ref ar]) hx hb hml hl.1 hown hts q2_173 (Nat.le_of_ble_eq_true rfl) (Nat.le_of_ble_eq_true rfl) (Nat.le_of_ble_eq_true rfl) (by show _ ≤ 90; omega) dJ7_copyOf_6403c_32 ?_
    refine lv_topi (fun v6 ev6 => ?_)
    replace ev6 : v6 = nI cap := ev6.trans ((mnI_n (by omega) (by omega)).trans (by congr 1; omega))
    subst ev6
    refine hm_copyO hx hb hml hl.1 hown hts q2_176 hK hO hS hH h5 h4 hb0 hb_q2 (by decide) (by decide) (nI_pos (n := cap) (by omega)) (by rw [nI_clamp (n := cap) (by omega), show (0 : Int32).toNatClampNeg = 0 from rfl]; omega) (by rw [nI_clamp (n := cap) (by omega), show (0 : Int32).toNatClampNeg = 0 from rfl]; omega) (fun i hi y hy => ?_) (Nat.le_of_ble_eq_true rfl) (by decide +kernel) dJ7_copyOf_6403c_35 (fun H locs hH hS => ?_)
    · rw [nI_clamp (n := cap) (by omega)] at hi
      have hy2 : g i = some y := by rw [show (0 : Int32).toNatClampNeg = 0 from rfl, Nat.zero_add] at hy; exact hy
      obtain ⟨ci, vs, r_, w1, w2, w3⟩ := hel i hi y hy2
      exact hm_any hK hH (by rw [ef3]; exact (hm_un (hm_nn w1 hn_q2)).trans w1) w2 w3
    rw [nI_clamp (n := cap) (by omega), show (0 : Int32).toNatClampNeg = 0 from rfl] at hH
    refine lv_aload_n hx hb dJ7_copyOf_6403c_38 rfl (lv_at hl 0 rfl) ?_
    subst ef3
    exact hm_aret hx hb hr (Or.inr ⟨_, rfl⟩) (Or.inr ⟨_, rfl⟩) hlocks hS hH (⟨q2, rfl, hn_q2, hb_q2, by rw [hm_uu]; rfl⟩) (Nat.le_of_ble_eq_true rfl) (by show _ ≤ 90; omega) dJ7_copyOf_6403c_39
set_option maxHeartbeats 4000000 in
set_option maxRecDepth 100000 in
theorem c_copyOf2 (Γ : Gm) (l : Launch) (ar cap N : Nat) (g : Nat → Option Nat) (f : Hm) (hg : f ar = some (eO Γ cap g)) (hb0 : gB Γ ≤ ar) (hcN : cap ≤ N) (hN : N ≤ 90) (hel : ∀ i, i < cap → ∀ y, g i = some y → isO f y) : Ct Γ l yJ7_copyOf_1904c cJ7_copyOf_1904c 2 (some (.array (.object "java/lang/Object"))) 2 1 90 [.ref ar, .int (nI N)] f (fun v f' => ∃ q, v = some (.ref q) ∧ f q = none ∧ gB Γ ≤ q ∧ f' = hm_up f q (eO Γ N (gG g cap))) := by
  refine Ct_of (by decide +kernel) (Nat.le_of_ble_eq_true rfl) ?_
  intro p e s m args below meth c hx hb hr hml hown hin hlocks hts hH hO hK ls hl
  have hl : lv_has ls 2 [(0, .ref ar), (1, .int (nI N))] := hl
  have hS : va_S (gA Γ) s.heap s.heap [] := va_S.rf
  refine lv_aload_n hx hb dJ7_copyOf_1904c_0 rfl (lv_at hl 0 rfl) ?_
  refine lv_iload_n hx hb dJ7_copyOf_1904c_1 rfl (lv_at hl 1 rfl) ?_
  refine lv_aload_n hx hb dJ7_copyOf_1904c_2 rfl (lv_at hl 0 rfl) ?_
  refine hm_getC (rest := [.int (nI N), .ref ar]) hx hb hml hl.1 hts hown hK hH hg (Nat.le_of_ble_eq_true rfl) (Nat.le_of_ble_eq_true rfl) dJ7_copyOf_1904c_3 ?_
  refine hm_callS (rest := []) (k := 1) q2_167 q2_168 q1_16 q2_169 nm_J7_copyOf_6403c rfl hx hb hml hown hts hK hO hS hH hl.1 (c_copyOf3 Γ l ar cap N g f hg hb0 hcN hN hel) ⟨Nat.le_of_ble_eq_true rfl, Nat.le_of_ble_eq_true rfl⟩ ⟨Nat.le_of_ble_eq_true rfl, Nat.le_of_ble_eq_true rfl⟩ rfl (Nat.le_of_ble_eq_true rfl) dJ7_copyOf_1904c_6 (fun v_ f_ H locs hp_ hH hS => ?_)
  obtain ⟨q_, rfl, hq1, hq2, ef_⟩ := hp_
  refine W.eq (g2 := F0 m 9 ls [.ref q_]) rfl ?_
  exact hm_aret hx hb hr (Or.inr ⟨_, rfl⟩) (Or.inr ⟨_, rfl⟩) hlocks hS hH (⟨q_, rfl, hq1, hq2, ef_⟩) (Nat.le_of_ble_eq_true rfl) (Nat.le_of_ble_eq_true rfl) dJ7_copyOf_1904c_9
set_option maxHeartbeats 4000000 in
set_option maxRecDepth 100000 in
theorem c_growI (Γ : Gm) (l : Launch) (a ar n : Nat) (mo : Int32) (g : Nat → Option Nat) (f : Hm) (ha : f a = some (eR 0 [.int mo, .ref ar, .int (nI n)])) (hg : f ar = some (eO Γ n g)) (har : n = 0 ∧ ar = gE Γ ∨ 0 < n ∧ gB Γ ≤ ar) (hn : n ≤ 60) (hel : ∀ i, i < n → ∀ y, g i = some y → isO f y) : Ct Γ l yJx4a65c_grow_92f84 cJx4a65c_grow_92f84 4 (some (.array (.object "java/lang/Object"))) 3 1 90 [.ref a, .int (nI (n + 1))] f (fun v f' => ∃ q, v = some (.ref q) ∧ f q = none ∧ gB Γ ≤ q ∧ f' = hm_up (hm_up f q (eO Γ (capN n) (gG g n))) a (eR 0 [.int mo, .ref q, .int (nI n)])) := by
  refine Ct_of (by decide +kernel) (Nat.le_of_ble_eq_true rfl) ?_
  intro p e s m args below meth c hx hb hr hml hown hin hlocks hts hH hO hK ls hl
  have hl : lv_has ls 4 [(0, .ref a), (1, .int (nI (n + 1)))] := hl
  have hS : va_S (gA Γ) s.heap s.heap [] := va_S.rf
  rcases har with ⟨h0, hgE⟩ | ⟨h0, hb0⟩
  · subst h0
    have hne_ : ar = gE Γ := hgE
    refine lv_aload_n hx hb dJx4a65c_grow_92f84_0 rfl (lv_at hl 0 rfl) ?_
    refine gf_Jx4a65c_9 hx hb hts hown hK hH ha rfl dJx4a65c_grow_92f84_1 ?_
    refine hm_alen (v := 0) hx hb hK hH 4 hg rfl rfl dJx4a65c_grow_92f84_4 ?_
    refine lv_istore_n (lv' := [(2, .int 0), (0, .ref a), (1, .int (nI (0 + 1)))]) hx hb dJx4a65c_grow_92f84_5 rfl hl (by decide) rfl (fun ls hl => ?_)
    refine lv_iload_n hx hb dJx4a65c_grow_92f84_6 rfl (lv_at hl 0 rfl) ?_
    refine lv_if_gt (tgt := 20) hx hb dJx4a65c_grow_92f84_7 (by decide) (fun c1 => absurd c1 (by decide)) (fun _ => ?_)
    refine lv_aload_n hx hb dJx4a65c_grow_92f84_10 rfl (lv_at hl 1 rfl) ?_
    refine gf_Jx4a65c_9 hx hb hts hown hK hH ha rfl dJx4a65c_grow_92f84_11 ?_
    refine hm_getsE hx hb hts hown hK hO hS dJx4a65c_grow_92f84_14 ?_
    refine lv_acmp_eq (rx := some ar) (ry := some (gE Γ)) (tgt := 45) hx hb dJx4a65c_grow_92f84_17 (by decide) (fun c2 => ?_) (fun c2 => ?_)
    · refine lv_aload_n hx hb dJx4a65c_grow_92f84_45 rfl (lv_at hl 1 rfl) ?_
      refine lv_bipush (v := 10) hx hb dJx4a65c_grow_92f84_46 (by decide) ?_
      refine lv_iload_n hx hb dJx4a65c_grow_92f84_48 rfl (lv_at hl 2 rfl) ?_
      refine hm_max (rest := [.ref a]) hx hb hml hl.1 hown hts q2_179 (Nat.le_of_ble_eq_true rfl) (Nat.le_of_ble_eq_true rfl) (Nat.le_of_ble_eq_true rfl) (by show _ ≤ 90; omega) dJx4a65c_grow_92f84_49 ?_
      refine lv_topi (fun v3 ev3 => ?_)
      replace ev3 : v3 = nI 10 := ev3.trans (by decide +kernel)
      subst ev3
      refine hm_newO hx hb hts hown q2_180 hK hO hS hH (N' := 10) (nI_pos (by omega)) (nI_clamp (by omega)) (by omega) (Nat.le_of_ble_eq_true rfl) (by show _ ≤ 90; omega) dJx4a65c_grow_92f84_52 (fun q4 H hH hn_q4 hb_q4 hS => ?_)
      obtain ⟨f5, ef5⟩ : ∃ zz_, zz_ = hm_up f q4 (eO Γ 10 (fun _ => none)) := ⟨_, rfl⟩
      have hH : hm_H Γ f5 H := by rw [ef5]; exact hH
      have h6 : f5 q4 = some (eO Γ 10 (fun _ => none)) := by rw [ef5]; exact hm_us
      have h7 : f5 a = some (eR 0 [.int mo, .ref ar, .int (nI 0)]) := by rw [ef5]; exact (hm_un (hm_nn ha hn_q4)).trans ha
      have h8 : f5 ar = some (eO Γ 0 g) := by rw [ef5]; exact (hm_un (hm_nn hg hn_q4)).trans hg
      refine lv_dup_x1 hx hb dJx4a65c_grow_92f84_55 rfl rfl ?_
      refine pf_Jx4a65c_9 hx hb hts hown hK hO hS hH h7 rfl (Nat.le_of_ble_eq_true rfl) rfl dJx4a65c_grow_92f84_56 (fun H locs hH hS => ?_)
      obtain ⟨f9, ef9⟩ : ∃ zz_, zz_ = hm_up f5 a (eR 0 [.int mo, .ref q4, .int (nI 0)]) := ⟨_, rfl⟩
      have hH : hm_H Γ f9 H := by rw [ef9]; exact hH
      have h10 : f9 a = some (eR 0 [.int mo, .ref q4, .int (nI 0)]) := by rw [ef9]; exact hm_us
      have h11 : f9 ar = some (eO Γ 0 g) := by rw [ef9]; exact (hm_un (hm_ne h8 h7 (fun q => by cases q))).trans h8
      have h12 : f9 q4 = some (eO Γ 10 (fun _ => none)) := by rw [ef9]; exact (hm_un (hm_ne h6 h7 (fun q => by cases q))).trans h6
      subst ef9
      subst ef5
      exact hm_aret hx hb hr (Or.inr ⟨_, rfl⟩) (Or.inr ⟨_, rfl⟩) hlocks hS hH (⟨q4, rfl, hn_q4, hb_q4, by rw [gG_0]; rfl⟩) (Nat.le_of_ble_eq_true rfl) (by show _ ≤ 90; omega) dJx4a65c_grow_92f84_59
    · exact absurd (by rw [hne_]) c2
  · have hcN : capN n = n + max 1 (n / 2) := by unfold capN; rw [if_neg (by omega)]
    refine lv_aload_n hx hb dJx4a65c_grow_92f84_0 rfl (lv_at hl 0 rfl) ?_
    refine gf_Jx4a65c_9 hx hb hts hown hK hH ha rfl dJx4a65c_grow_92f84_1 ?_
    refine hm_alen (v := nI n) hx hb hK hH 4 hg rfl rfl dJx4a65c_grow_92f84_4 ?_
    refine lv_istore_n (lv' := [(2, .int (nI n)), (0, .ref a), (1, .int (nI (n + 1)))]) hx hb dJx4a65c_grow_92f84_5 rfl hl (by decide) rfl (fun ls hl => ?_)
    refine lv_iload_n hx hb dJx4a65c_grow_92f84_6 rfl (lv_at hl 0 rfl) ?_
    refine lv_if_gt (tgt := 20) hx hb dJx4a65c_grow_92f84_7 (by decide) (fun _ => ?_) (fun c1 => absurd ((nI_lt (a := 0) h0 (by omega))) c1)
    refine lv_iload_n hx hb dJx4a65c_grow_92f84_20 rfl (lv_at hl 0 rfl) ?_
    refine lv_iload_n hx hb dJx4a65c_grow_92f84_21 rfl (lv_at hl 2 rfl) ?_
    refine lv_iload_n hx hb dJx4a65c_grow_92f84_22 rfl (lv_at hl 0 rfl) ?_
    refine lv_isub hx hb dJx4a65c_grow_92f84_23 ?_
    refine lv_topi (fun v2 ev2 => ?_)
    replace ev2 : v2 = nI 1 := ev2.trans ((nI_sub_ge (by omega) (by omega)).trans (by congr 1; omega))
    subst ev2
    refine lv_iload_n hx hb dJx4a65c_grow_92f84_24 rfl (lv_at hl 0 rfl) ?_
    refine lv_iconst (v := 1) hx hb dJx4a65c_grow_92f84_25 (by decide) ?_
    refine lv_ishr hx hb dJx4a65c_grow_92f84_26 ?_
    refine lv_topi (fun v3 ev3 => ?_)
    replace ev3 : v3 = nI (n / 2) := ev3.trans (lst_half n (by omega))
    subst ev3
    refine hm_callS (rest := []) (k := 1) q2_132 q2_133 q1_15 q2_134 nm_J8_newLength_cabcc rfl hx hb hml hown hts hK hO hS hH hl.1 (c_newLength Γ l n 1 (n / 2) f (by omega) (by omega) (by omega)) ⟨Nat.le_of_ble_eq_true rfl, Nat.le_of_ble_eq_true rfl⟩ ⟨Nat.le_of_ble_eq_true rfl, Nat.le_of_ble_eq_true rfl⟩ rfl (Nat.le_of_ble_eq_true rfl) dJx4a65c_grow_92f84_27 (fun v_ f_ H locs hp_ hH hS => ?_)
    obtain ⟨rfl, ef_⟩ := hp_
    rw [ef_] at hH
    clear ef_
    refine W.eq (g2 := F0 m 30 ls [.int (nI (n + max 1 (n / 2)))]) rfl ?_
    refine lv_istore_n (lv' := [(3, .int (nI (n + max 1 (n / 2)))), (2, .int (nI n)), (0, .ref a), (1, .int (nI (n + 1)))]) hx hb dJx4a65c_grow_92f84_30 rfl hl (by decide) rfl (fun ls hl => ?_)
    refine lv_aload_n hx hb dJx4a65c_grow_92f84_31 rfl (lv_at hl 2 rfl) ?_
    refine lv_aload_n hx hb dJx4a65c_grow_92f84_32 rfl (lv_at hl 2 rfl) ?_
    refine gf_Jx4a65c_9 hx hb hts hown hK hH ha rfl dJx4a65c_grow_92f84_33 ?_
    refine lv_iload_n hx hb dJx4a65c_grow_92f84_36 rfl (lv_at hl 0 rfl) ?_
    refine hm_callS (rest := [.ref a]) (k := 2) q2_140 q2_141 q1_16 q2_142 nm_J7_copyOf_1904c rfl hx hb hml hown hts hK hO hS hH hl.1 (c_copyOf2 Γ l ar n (n + max 1 (n / 2)) g f hg hb0 (by omega) (by omega) hel) ⟨Nat.le_of_ble_eq_true rfl, Nat.le_of_ble_eq_true rfl⟩ ⟨Nat.le_of_ble_eq_true rfl, Nat.le_of_ble_eq_true rfl⟩ rfl (Nat.le_of_ble_eq_true rfl) dJx4a65c_grow_92f84_37 (fun v_ f_ H locs hp_ hH hS => ?_)
    obtain ⟨q_, rfl, hq1, hq2, ef_⟩ := hp_
    refine W.eq (g2 := F0 m 40 ls [.ref q_, .ref a]) rfl ?_
    have ha2 : f_ a = some (eR 0 [.int mo, .ref ar, .int (nI n)]) := by rw [ef_]; exact (hm_un (hm_nn ha hq1)).trans ha
    refine lv_dup_x1 hx hb dJx4a65c_grow_92f84_40 rfl rfl ?_
    refine pf_Jx4a65c_9 hx hb hts hown hK hO hS hH ha2 rfl (Nat.le_of_ble_eq_true rfl) rfl dJx4a65c_grow_92f84_41 (fun H locs hH hS => ?_)
    obtain ⟨f4, ef4⟩ : ∃ zz_, zz_ = hm_up f_ a (eR 0 [.int mo, .ref q_, .int (nI n)]) := ⟨_, rfl⟩
    have hH : hm_H Γ f4 H := by rw [ef4]; exact hH
    have h5 : f4 a = some (eR 0 [.int mo, .ref q_, .int (nI n)]) := by rw [ef4]; exact hm_us
    subst ef4
    subst ef_
    exact hm_aret hx hb hr (Or.inr ⟨_, rfl⟩) (Or.inr ⟨_, rfl⟩) hlocks hS hH (⟨q_, rfl, hq1, hq2, by rw [hcN]⟩) (Nat.le_of_ble_eq_true rfl) (by show _ ≤ 90; omega) dJx4a65c_grow_92f84_44
set_option maxHeartbeats 4000000 in
set_option maxRecDepth 100000 in
theorem c_grow (Γ : Gm) (l : Launch) (a ar n : Nat) (mo : Int32) (g : Nat → Option Nat) (f : Hm) (ha : f a = some (eR 0 [.int mo, .ref ar, .int (nI n)])) (hg : f ar = some (eO Γ n g)) (har : n = 0 ∧ ar = gE Γ ∨ 0 < n ∧ gB Γ ≤ ar) (hn : n ≤ 60) (hel : ∀ i, i < n → ∀ y, g i = some y → isO f y) : Ct Γ l yJx4a65c_grow_d5877 cJx4a65c_grow_d5877 1 (some (.array (.object "java/lang/Object"))) 4 1 90 [.ref a] f (fun v f' => ∃ q, v = some (.ref q) ∧ f q = none ∧ gB Γ ≤ q ∧ f' = hm_up (hm_up f q (eO Γ (capN n) (gG g n))) a (eR 0 [.int mo, .ref q, .int (nI n)])) := by
  refine Ct_of (by decide +kernel) (Nat.le_of_ble_eq_true rfl) ?_
  intro p e s m args below meth c hx hb hr hml hown hin hlocks hts hH hO hK ls hl
  have hl : lv_has ls 1 [(0, .ref a)] := hl
  have hS : va_S (gA Γ) s.heap s.heap [] := va_S.rf
  refine lv_aload_n hx hb dJx4a65c_grow_d5877_0 rfl (lv_at hl 0 rfl) ?_
  refine lv_aload_n hx hb dJx4a65c_grow_d5877_1 rfl (lv_at hl 0 rfl) ?_
  refine gf_Jx4a65c_48 hx hb hts hown hK hH ha rfl dJx4a65c_grow_d5877_2 ?_
  refine lv_iconst (v := 1) hx hb dJx4a65c_grow_d5877_5 (by decide) ?_
  refine lv_iadd hx hb dJx4a65c_grow_d5877_6 ?_
  refine lv_topi (fun v1 ev1 => ?_)
  replace ev1 : v1 = (nI (n + 1)) := ev1.trans (nI_1 n)
  subst ev1
  refine hm_callV (rest := []) (k := 3) q2_128 q2_130 q1_4 q2_131 q0_3 rfl nm_Jx4a65c_grow_92f84 rfl hx hb hml hown hts hK hO hS hH hl.1 ha (c_growI Γ l a ar n mo g f ha hg har hn hel) ⟨Nat.le_of_ble_eq_true rfl, Nat.le_of_ble_eq_true rfl⟩ ⟨Nat.le_of_ble_eq_true rfl, Nat.le_of_ble_eq_true rfl⟩ rfl (Nat.le_of_ble_eq_true rfl) dJx4a65c_grow_d5877_7 (fun v_ f_ H locs hp_ hH hS => ?_)
  obtain ⟨q_, rfl, hq1, hq2, ef_⟩ := hp_
  refine W.eq (g2 := F0 m 10 ls [.ref q_]) rfl ?_
  exact hm_aret hx hb hr (Or.inr ⟨_, rfl⟩) (Or.inr ⟨_, rfl⟩) hlocks hS hH (⟨q_, rfl, hq1, hq2, ef_⟩) (Nat.le_of_ble_eq_true rfl) (Nat.le_of_ble_eq_true rfl) dJx4a65c_grow_d5877_10
set_option maxHeartbeats 4000000 in
set_option maxRecDepth 100000 in
theorem c_add3 (Γ : Gm) (l : Launch) (a ar cap n : Nat) (L : Nat → Nat) (x : Nat) (f : Hm) (hL : LI Γ f a ar cap n L) (hn : n < 60) (hcap90 : cap ≤ 90) (hx0 : isO f x) (hxa : x ≠ a) (hel : ∀ i, i < n → isO f (L i)) : Ct Γ l yJx4a65c_add_72be8 cJx4a65c_add_72be8 4 (none : Option Jvm.ClassFile.FieldType) 5 1 90 [.ref a, .ref x, .ref ar, .int (nI n)] f (fun v f' => v = none ∧ ∃ ar' cap', LI Γ f' a ar' cap' (n + 1) (va_up L n x) ∧ hm_k (oL Γ a ar) f f' ∧ (ar' = ar ∧ cap' = cap ∨ f ar' = none) ∧ cap' ≤ 90) := by
  refine Ct_of (by decide +kernel) (Nat.le_of_ble_eq_true rfl) ?_
  intro p e s m args below meth c hx hb hr hml hown hin hlocks hts hH hO hK ls hl
  have hl : lv_has ls 4 [(0, .ref a), (1, .ref x), (2, .ref ar), (3, .int (nI n))] := hl
  have hS : va_S (gA Γ) s.heap s.heap [] := va_S.rf
  obtain ⟨⟨mo, ha⟩, ⟨g, hg, hg1, hg2⟩, hcap, har⟩ := id hL
  obtain ⟨ci, vs, r_, hxv, hxc, hxz⟩ := hx0
  have hne_x_a : x ≠ a := hxa
  rcases Nat.lt_or_ge n cap with hlt | hge
  · have hbar : gB Γ ≤ ar := by rcases har with ⟨h, _⟩ | ⟨_, h⟩ <;> first | omega | exact h
    refine lv_iload_n hx hb dJx4a65c_add_72be8_0 rfl (lv_at hl 3 rfl) ?_
    refine lv_aload_n hx hb dJx4a65c_add_72be8_1 rfl (lv_at hl 2 rfl) ?_
    refine hm_alen (v := nI cap) hx hb hK hH 4 hg rfl rfl dJx4a65c_add_72be8_2 ?_
    refine lv_icmp_ne (tgt := 11) hx hb dJx4a65c_add_72be8_3 (by decide) (fun _ => ?_) (fun c1 => absurd c1 ((fun q => absurd ((nI_eq (by omega) (by omega)).mp q) (by omega))))
    refine lv_aload_n hx hb dJx4a65c_add_72be8_11 rfl (lv_at hl 2 rfl) ?_
    refine lv_iload_n hx hb dJx4a65c_add_72be8_12 rfl (lv_at hl 3 rfl) ?_
    refine lv_aload_n hx hb dJx4a65c_add_72be8_13 rfl (lv_at hl 1 rfl) ?_
    refine hm_astO hx hb hK hO hS hH hg hxv hxc hxz (vp_in_nI hlt (by omega)) dJx4a65c_add_72be8_14 (fun H locs hH hS => ?_)
    obtain ⟨f2, ef2⟩ : ∃ zz_, zz_ = hm_up f ar (eO Γ cap (va_up g (nI n).toNatClampNeg (some x))) := ⟨_, rfl⟩
    have hH : hm_H Γ f2 H := by rw [ef2]; exact hH
    have h3 : f2 ar = some (eO Γ cap (va_up g (nI n).toNatClampNeg (some x))) := by rw [ef2]; exact hm_us
    have h4 : f2 a = some (eR 0 [.int mo, .ref ar, .int (nI n)]) := by rw [ef2]; exact (hm_un (hm_ne ha hg (fun q => by cases q))).trans ha
    have h5 : f2 x = some (eR ci vs) := by rw [ef2]; exact (hm_un (hm_ne hxv hg (fun q => by cases q))).trans hxv
    refine lv_aload_n hx hb dJx4a65c_add_72be8_15 rfl (lv_at hl 0 rfl) ?_
    refine lv_iload_n hx hb dJx4a65c_add_72be8_16 rfl (lv_at hl 3 rfl) ?_
    refine lv_iconst (v := 1) hx hb dJx4a65c_add_72be8_17 (by decide) ?_
    refine lv_iadd hx hb dJx4a65c_add_72be8_18 ?_
    refine lv_topi (fun v6 ev6 => ?_)
    replace ev6 : v6 = (nI (n + 1)) := ev6.trans (nI_1 n)
    subst ev6
    refine pf_Jx4a65c_48 hx hb hts hown hK hO hS hH h4 rfl (Nat.le_of_ble_eq_true rfl) rfl dJx4a65c_add_72be8_19 (fun H locs hH hS => ?_)
    obtain ⟨f7, ef7⟩ : ∃ zz_, zz_ = hm_up f2 a (eR 0 [.int mo, .ref ar, .int ((nI (n + 1)))]) := ⟨_, rfl⟩
    have hH : hm_H Γ f7 H := by rw [ef7]; exact hH
    have h8 : f7 a = some (eR 0 [.int mo, .ref ar, .int ((nI (n + 1)))]) := by rw [ef7]; exact hm_us
    have h9 : f7 ar = some (eO Γ cap (va_up g (nI n).toNatClampNeg (some x))) := by rw [ef7]; exact (hm_un (hm_ne h3 h4 (fun q => by cases q))).trans h3
    have h10 : f7 x = some (eR ci vs) := by rw [ef7]; exact (hm_un hne_x_a).trans h5
    subst ef7
    subst ef2
    have hcl : (nI n).toNatClampNeg = n := nI_clamp (by omega)
    rw [hcl] at hH
    have haa : a ≠ ar := hm_ne ha hg (fun q => by cases q)
    refine hm_vret (Post := fun v f' => v = none ∧ ∃ ar' cap', LI Γ f' a ar' cap' (n + 1) (va_up L n x) ∧ hm_k (oL Γ a ar) f f' ∧ (ar' = ar ∧ cap' = cap ∨ f ar' = none) ∧ cap' ≤ 90) hx hb hr hlocks hS hH (⟨rfl, ar, cap, ⟨⟨mo, hm_us⟩, ⟨_, (hm_un (Ne.symm haa)).trans hm_us, fun i hi => ?_, fun i hi => ?_⟩, by omega, har⟩, ?_, Or.inl ⟨rfl, rfl⟩, hcap90⟩) (Nat.le_of_ble_eq_true rfl) (Nat.le_of_ble_eq_true rfl) dJx4a65c_add_72be8_22
    · by_cases q : i = n
      · subst q; rw [va_up_self, va_up_self]
      · rw [va_up_ne _ _ q, va_up_ne _ _ q]; exact hg1 i (by omega)
    · rw [va_up_ne _ _ (by omega)]; exact hg2 i (by omega)
    · exact (hm_k.rf.up (Or.inr ⟨rfl, hbar⟩)).up (Or.inl rfl)
  · have hce : cap = n := by omega
    subst hce
    have hel2 : ∀ i, i < cap → ∀ y, g i = some y → isO f y := fun i hi y hy => by
      rw [hg1 i hi] at hy
      cases hy
      exact hel i hi
    refine lv_iload_n hx hb dJx4a65c_add_72be8_0 rfl (lv_at hl 3 rfl) ?_
    refine lv_aload_n hx hb dJx4a65c_add_72be8_1 rfl (lv_at hl 2 rfl) ?_
    refine hm_alen (v := nI cap) hx hb hK hH 4 hg rfl rfl dJx4a65c_add_72be8_2 ?_
    refine lv_icmp_ne (tgt := 11) hx hb dJx4a65c_add_72be8_3 (by decide) (fun c1 => absurd (rfl) c1) (fun _ => ?_)
    refine lv_aload_n hx hb dJx4a65c_add_72be8_6 rfl (lv_at hl 0 rfl) ?_
    refine hm_callV (rest := []) (k := 4) q2_124 q2_126 q1_4 q2_127 q0_2 rfl nm_Jx4a65c_grow_d5877 rfl hx hb hml hown hts hK hO hS hH hl.1 ha (c_grow Γ l a ar cap mo g f ha hg har (by omega) hel2) ⟨Nat.le_of_ble_eq_true rfl, Nat.le_of_ble_eq_true rfl⟩ ⟨Nat.le_of_ble_eq_true rfl, Nat.le_of_ble_eq_true rfl⟩ rfl (Nat.le_of_ble_eq_true rfl) dJx4a65c_add_72be8_7 (fun v_ f_ H locs hp_ hH hS => ?_)
    obtain ⟨q_, rfl, hq1, hq2, ef_⟩ := hp_
    refine W.eq (g2 := F0 m 10 ls [.ref q_]) rfl ?_
    have haq : a ≠ q_ := hm_nn ha hq1
    have ha2 : f_ a = some (eR 0 [.int mo, .ref q_, .int (nI cap)]) := by rw [ef_]; exact hm_us
    have hq3 : f_ q_ = some (eO Γ (capN cap) (gG g cap)) := by rw [ef_]; exact (hm_un (Ne.symm haq)).trans hm_us
    have hx3 : f_ x = some (eR ci vs) := by rw [ef_]; exact (hm_un hne_x_a).trans ((hm_un (hm_nn hxv hq1)).trans hxv)
    have hcN : cap < capN cap ∧ capN cap ≤ 90 := by unfold capN; split <;> omega
    refine lv_astore_n (lv' := [(2, .ref q_), (0, .ref a), (1, .ref x), (3, .int (nI cap))]) hx hb dJx4a65c_add_72be8_10 rfl hl (by decide) rfl (fun ls hl => ?_)
    refine lv_aload_n hx hb dJx4a65c_add_72be8_11 rfl (lv_at hl 0 rfl) ?_
    refine lv_iload_n hx hb dJx4a65c_add_72be8_12 rfl (lv_at hl 3 rfl) ?_
    refine lv_aload_n hx hb dJx4a65c_add_72be8_13 rfl (lv_at hl 2 rfl) ?_
    refine hm_astO hx hb hK hO hS hH hq3 hx3 hxc hxz (vp_in_nI hcN.1 (by omega)) dJx4a65c_add_72be8_14 (fun H locs hH hS => ?_)
    obtain ⟨f2, ef2⟩ : ∃ zz_, zz_ = hm_up f_ q_ (eO Γ ((capN cap)) (va_up (gG g cap) (nI cap).toNatClampNeg (some x))) := ⟨_, rfl⟩
    have hH : hm_H Γ f2 H := by rw [ef2]; exact hH
    have h3 : f2 q_ = some (eO Γ ((capN cap)) (va_up (gG g cap) (nI cap).toNatClampNeg (some x))) := by rw [ef2]; exact hm_us
    have h4 : f2 a = some (eR 0 [.int mo, .ref q_, .int (nI cap)]) := by rw [ef2]; exact (hm_un (hm_ne ha2 hq3 (fun q => by cases q))).trans ha2
    have h5 : f2 x = some (eR ci vs) := by rw [ef2]; exact (hm_un (hm_ne hx3 hq3 (fun q => by cases q))).trans hx3
    refine lv_aload_n hx hb dJx4a65c_add_72be8_15 rfl (lv_at hl 1 rfl) ?_
    refine lv_iload_n hx hb dJx4a65c_add_72be8_16 rfl (lv_at hl 3 rfl) ?_
    refine lv_iconst (v := 1) hx hb dJx4a65c_add_72be8_17 (by decide) ?_
    refine lv_iadd hx hb dJx4a65c_add_72be8_18 ?_
    refine lv_topi (fun v6 ev6 => ?_)
    replace ev6 : v6 = (nI (cap + 1)) := ev6.trans (nI_1 cap)
    subst ev6
    refine pf_Jx4a65c_48 hx hb hts hown hK hO hS hH h4 rfl (Nat.le_of_ble_eq_true rfl) rfl dJx4a65c_add_72be8_19 (fun H locs hH hS => ?_)
    obtain ⟨f7, ef7⟩ : ∃ zz_, zz_ = hm_up f2 a (eR 0 [.int mo, .ref q_, .int ((nI (cap + 1)))]) := ⟨_, rfl⟩
    have hH : hm_H Γ f7 H := by rw [ef7]; exact hH
    have h8 : f7 a = some (eR 0 [.int mo, .ref q_, .int ((nI (cap + 1)))]) := by rw [ef7]; exact hm_us
    have h9 : f7 q_ = some (eO Γ ((capN cap)) (va_up (gG g cap) (nI cap).toNatClampNeg (some x))) := by rw [ef7]; exact (hm_un (hm_ne h3 h4 (fun q => by cases q))).trans h3
    have h10 : f7 x = some (eR ci vs) := by rw [ef7]; exact (hm_un hne_x_a).trans h5
    subst ef7
    subst ef2
    subst ef_
    have hcl : (nI cap).toNatClampNeg = cap := nI_clamp (by omega)
    rw [hcl] at hH
    refine hm_vret (Post := fun v f' => v = none ∧ ∃ ar' cap', LI Γ f' a ar' cap' (cap + 1) (va_up L cap x) ∧ hm_k (oL Γ a ar) f f' ∧ (ar' = ar ∧ cap' = cap ∨ f ar' = none) ∧ cap' ≤ 90) hx hb hr hlocks hS hH (⟨rfl, q_, capN cap, ⟨⟨mo, hm_us⟩, ⟨_, (hm_un (Ne.symm haq)).trans hm_us, fun i hi => ?_, fun i hi => ?_⟩, by omega, Or.inr ⟨by omega, hq2⟩⟩, ?_, Or.inr hq1, hcN.2⟩) (Nat.le_of_ble_eq_true rfl) (Nat.le_of_ble_eq_true rfl) dJx4a65c_add_72be8_22
    · by_cases q : i = cap
      · subst q; rw [va_up_self, va_up_self]
      · rw [va_up_ne _ _ q, va_up_ne _ _ q, gG_in (by omega)]; exact hg1 i (by omega)
    · rw [va_up_ne _ _ (by omega), gG_out (by omega)]
    · exact (((hm_k.rf.upN hq1).up (Or.inl rfl)).upN hq1).up (Or.inl rfl)
set_option maxHeartbeats 4000000 in
set_option maxRecDepth 100000 in
theorem c_add (Γ : Gm) (l : Launch) (a ar cap n : Nat) (L : Nat → Nat) (x : Nat) (f : Hm) (hL : LI Γ f a ar cap n L) (hn : n < 60) (hcap90 : cap ≤ 90) (hx0 : isO f x) (hxa : x ≠ a) (hel : ∀ i, i < n → isO f (L i)) : Ct Γ l yJx4a65c_add_9ea2d cJx4a65c_add_9ea2d 2 (some .boolean) 6 1 90 [.ref a, .ref x] f (fun v f' => v = some (.int 1) ∧ ∃ ar' cap', LI Γ f' a ar' cap' (n + 1) (va_up L n x) ∧ hm_k (oL Γ a ar) f f' ∧ (ar' = ar ∧ cap' = cap ∨ f ar' = none) ∧ cap' ≤ 90) := by
  refine Ct_of (by decide +kernel) (Nat.le_of_ble_eq_true rfl) ?_
  intro p e s m args below meth c hx hb hr hml hown hin hlocks hts hH hO hK ls hl
  have hl : lv_has ls 2 [(0, .ref a), (1, .ref x)] := hl
  have hS : va_S (gA Γ) s.heap s.heap [] := va_S.rf
  obtain ⟨⟨mo, ha⟩, ⟨g, hg, hg1, hg2⟩, hcap, har⟩ := id hL
  refine lv_aload_n hx hb dJx4a65c_add_9ea2d_0 rfl (lv_at hl 0 rfl) ?_
  refine lv_dup hx hb dJx4a65c_add_9ea2d_1 rfl ?_
  refine gf_Jx4a65c_63 hx hb hts hown hK hH ha rfl dJx4a65c_add_9ea2d_2 ?_
  refine lv_iconst (v := 1) hx hb dJx4a65c_add_9ea2d_5 (by decide) ?_
  refine lv_iadd hx hb dJx4a65c_add_9ea2d_6 ?_
  refine lv_topi (fun v1 ev1 => ?_)
  refine pf_Jx4a65c_63 hx hb hts hown hK hO hS hH ha rfl (Nat.le_of_ble_eq_true rfl) rfl dJx4a65c_add_9ea2d_7 (fun H locs hH hS => ?_)
  obtain ⟨f2, ef2⟩ : ∃ zz_, zz_ = hm_up f a (eR 0 [.int v1, .ref ar, .int (nI n)]) := ⟨_, rfl⟩
  have hH : hm_H Γ f2 H := by rw [ef2]; exact hH
  have h3 : f2 a = some (eR 0 [.int v1, .ref ar, .int (nI n)]) := by rw [ef2]; exact hm_us
  refine lv_aload_n hx hb dJx4a65c_add_9ea2d_10 rfl (lv_at hl 0 rfl) ?_
  refine lv_aload_n hx hb dJx4a65c_add_9ea2d_11 rfl (lv_at hl 1 rfl) ?_
  refine lv_aload_n hx hb dJx4a65c_add_9ea2d_12 rfl (lv_at hl 0 rfl) ?_
  refine gf_Jx4a65c_9 hx hb hts hown hK hH h3 rfl dJx4a65c_add_9ea2d_13 ?_
  refine lv_aload_n hx hb dJx4a65c_add_9ea2d_16 rfl (lv_at hl 0 rfl) ?_
  refine gf_Jx4a65c_48 hx hb hts hown hK hH h3 rfl dJx4a65c_add_9ea2d_17 ?_
  have haa : a ≠ ar := hm_ne ha hg (fun q => by cases q)
  have hL1 : LI Γ f2 a ar cap n L := ⟨⟨_, h3⟩, ⟨g, by rw [ef2]; exact (hm_un (Ne.symm haa)).trans hg, hg1, hg2⟩, hcap, har⟩
  have hx1 : isO f2 x := by rw [ef2]; exact hx0.up (r := (RJx4a65c, TJx4a65c, 3)) rfl (by decide)
  have hel1 : ∀ i, i < n → isO f2 (L i) := fun i hi => by rw [ef2]; exact (hel i hi).up (r := (RJx4a65c, TJx4a65c, 3)) rfl (by decide)
  have hk1 : hm_k (oL Γ a ar) f f2 := by rw [ef2]; exact hm_k.rf.up (Or.inl rfl)
  refine hm_callV (rest := []) (k := 5) q2_120 q2_122 q1_4 q2_123 q0_1 rfl nm_Jx4a65c_add_72be8 rfl hx hb hml hown hts hK hO hS hH hl.1 h3 (c_add3 Γ l a ar cap n L x f2 hL1 hn hcap90 hx1 hxa hel1) ⟨Nat.le_of_ble_eq_true rfl, Nat.le_of_ble_eq_true rfl⟩ ⟨Nat.le_of_ble_eq_true rfl, Nat.le_of_ble_eq_true rfl⟩ rfl (Nat.le_of_ble_eq_true rfl) dJx4a65c_add_9ea2d_20 (fun v_ f_ H locs hp_ hH hS => ?_)
  obtain ⟨rfl, ar', cap', w1, w2, w3, w4⟩ := hp_
  refine W.eq (g2 := F0 m 23 ls []) rfl ?_
  have w5 : ar' = ar ∧ cap' = cap ∨ f ar' = none := by
    rcases w3 with h | h
    · exact Or.inl h
    · refine Or.inr ?_
      rw [ef2] at h
      by_cases q : ar' = a
      · rw [q, hm_us] at h; cases h
      · rw [hm_un q] at h; exact h
  refine lv_iconst (v := 1) hx hb dJx4a65c_add_9ea2d_23 (by decide) ?_
  exact hm_zret hx hb hr rfl hlocks hS hH (⟨rfl, ar', cap', w1, hk1.tr w2, w5, w4⟩) (Nat.le_of_ble_eq_true rfl) (Nat.le_of_ble_eq_true rfl) dJx4a65c_add_9ea2d_24
