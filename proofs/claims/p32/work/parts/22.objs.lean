/-! the small objects: Entry, Player, Search, Trace, Game; Math.max -/
abbrev EV : Type := Int64 × Int32 × Int32 × Int32 × Int32 × Int32 × Int32
/-- an Entry: board, z, depth, worth, push, lastUse, pins -/
abbrev ev (x : EV) : va_E := eR 2 [.long x.1, .int x.2.1, .int x.2.2.1, .int x.2.2.2.1, .int x.2.2.2.2.1, .int x.2.2.2.2.2.1, .int x.2.2.2.2.2.2]
def mxI (x y : Int32) : Int32 := if x < y then y else x
def mnI (x y : Int32) : Int32 := if y < x then y else x
section HMM
variable {p : Program} {l : Launch} {e : Env} {R : Room} {s : State} {m : MethodId} {args : Array Value} {below : List Frame} {meth : Method} {c : Code} {H : Heap} {locs : List Loc} {cells slots : Nat} {Q : State → Prop} {cc : ByteArray} {pc nL : Nat} {ls : Array Slot} {rest : List Value}
theorem hm_max {own : String} {index : Nat} (hx : p.tables.exec = Jvm.exec) (hb : c.code = cc) (hml : c.maxLocals = nL) (hsz : ls.size = nL) (hown : s.vm.findClass own = some m.cls) (hts : ∀ w ∈ lwG, w.before args s = true) (hl : Cond.methodLink own index ⟨"java/lang/Math", "max", "(II)I"⟩ ∈ lwG) (hf : 1 ≤ R.frames) (hlo : (rest.map fun v => v.category).sum + 13 ≤ R.locals) (hc : cells ≤ R.cells) (hs : slots ≤ R.slots) {x y : Int32} (hdg : decode cc pc = .ok (.invokestatic index, 3))
    (kk : W p l e R s m args below meth c H locs cells slots Q (F0 m (pc + 3) ls (.int (mxI x y) :: rest))) : W p l e R s m args below meth c H locs cells slots Q (F0 m pc ls (.int y :: .int x :: rest)) :=
  va_mmax hx hb (hml.trans hsz.symm) hown (hts _ hl) (hts _ q1_83) (hts _ q1_6) (hts _ q1_84) hf hlo hc hs hdg kk
theorem hm_min {own : String} {index : Nat} (hx : p.tables.exec = Jvm.exec) (hb : c.code = cc) (hml : c.maxLocals = nL) (hsz : ls.size = nL) (hown : s.vm.findClass own = some m.cls) (hts : ∀ w ∈ lwG, w.before args s = true) (hl : Cond.methodLink own index ⟨"java/lang/Math", "min", "(II)I"⟩ ∈ lwG) (hf : 1 ≤ R.frames) (hlo : (rest.map fun v => v.category).sum + 13 ≤ R.locals) (hc : cells ≤ R.cells) (hs : slots ≤ R.slots) {x y : Int32} (hdg : decode cc pc = .ok (.invokestatic index, 3))
    (kk : W p l e R s m args below meth c H locs cells slots Q (F0 m (pc + 3) ls (.int (mnI x y) :: rest))) : W p l e R s m args below meth c H locs cells slots Q (F0 m pc ls (.int y :: .int x :: rest)) :=
  va_mmin hx hb (hml.trans hsz.symm) hown (hts _ hl) (hts _ q2_174) (hts _ q1_6) (hts _ q2_175) hf hlo hc hs hdg kk
end HMM
set_option maxHeartbeats 4000000 in
set_option maxRecDepth 100000 in
theorem c_X2_isFree (Γ : Gm) (l : Launch) (a : Nat) (x : EV) (f : Hm) (ha : f a = some (ev x)) : Ct Γ l yX2_isFree cX2_isFree 1 (some .boolean) 1 0 0 [.ref a] f (pI (bI (decide (x.2.2.1 = 0))) f) := by
  refine Ct_of (by decide +kernel) (Nat.le_of_ble_eq_true rfl) ?_
  intro p e s m args below meth c hx hb hr hml hown hin hlocks hts hH hO hK ls hl
  have hl : lv_has ls 1 [(0, .ref a)] := hl
  have hS : va_S (gA Γ) s.heap s.heap [] := va_S.rf
  refine lv_aload_n hx hb dX2_isFree_0 rfl (lv_at hl 0 rfl) ?_
  refine gf_X2_21 hx hb hts hown hK hH ha rfl dX2_isFree_1 ?_
  refine lv_if_ne (tgt := 11) hx hb dX2_isFree_4 (by decide) (fun c1 => ?_) (fun c1 => ?_)
  · refine lv_iconst (v := 0) hx hb dX2_isFree_11 (by decide) ?_
    exact hm_zret hx hb hr rfl hlocks hS hH (pI_of (by rw [decide_eq_false c1]; rfl)) (Nat.le_of_ble_eq_true rfl) (Nat.le_of_ble_eq_true rfl) dX2_isFree_12
  · refine lv_iconst (v := 1) hx hb dX2_isFree_7 (by decide) ?_
    refine lv_goto (tgt := 12) hx hb dX2_isFree_8 (by decide) ?_
    exact hm_zret hx hb hr rfl hlocks hS hH (pI_of (by rw [decide_eq_true c1]; rfl)) (Nat.le_of_ble_eq_true rfl) (Nat.le_of_ble_eq_true rfl) dX2_isFree_12
def isFor (x : EV) (b : Int64) (z d : Int32) : Bool := decide (x.1 = b) && decide (x.2.1 = z) && decide (x.2.2.1 = d)
set_option maxHeartbeats 4000000 in
set_option maxRecDepth 100000 in
theorem c_X2_isFor (Γ : Gm) (l : Launch) (a : Nat) (x : EV) (b : Int64) (z d : Int32) (f : Hm) (ha : f a = some (ev x)) : Ct Γ l yX2_isFor cX2_isFor 5 (some .boolean) 1 0 0 [.ref a, .long b, .int z, .int d] f (pI (bI (isFor x b z d)) f) := by
  refine Ct_of (by decide +kernel) (Nat.le_of_ble_eq_true rfl) ?_
  intro p e s m args below meth c hx hb hr hml hown hin hlocks hts hH hO hK ls hl
  have hl : lv_has ls 5 [(0, .ref a), (1, .long b), (3, .int z), (4, .int d)] := hl
  have hS : va_S (gA Γ) s.heap s.heap [] := va_S.rf
  refine lv_aload_n hx hb dX2_isFor_0 rfl (lv_at hl 0 rfl) ?_
  refine gf_X2_11 hx hb hts hown hK hH ha rfl dX2_isFor_1 ?_
  refine lv_lload_n hx hb dX2_isFor_4 rfl (lv_at hl 1 rfl) ?_
  refine W.lcmp hx hb dX2_isFor_5 ?_
  refine lv_if_ne (tgt := 30) hx hb dX2_isFor_6 (by decide) (fun c2 => ?_) (fun c2 => ?_)
  · refine lv_iconst (v := 0) hx hb dX2_isFor_30 (by decide) ?_
    exact hm_zret hx hb hr rfl hlocks hS hH (pI_of (by unfold isFor; rw [decide_eq_false (fun q => c2 (m_cmp.mpr q))]; simp [bI])) (Nat.le_of_ble_eq_true rfl) (Nat.le_of_ble_eq_true rfl) dX2_isFor_31
  · refine lv_aload_n hx hb dX2_isFor_9 rfl (lv_at hl 0 rfl) ?_
    refine gf_X2_17 hx hb hts hown hK hH ha rfl dX2_isFor_10 ?_
    refine lv_iload_n hx hb dX2_isFor_13 rfl (lv_at hl 2 rfl) ?_
    refine lv_icmp_ne (tgt := 30) hx hb dX2_isFor_14 (by decide) (fun c3 => ?_) (fun c3 => ?_)
    · refine lv_iconst (v := 0) hx hb dX2_isFor_30 (by decide) ?_
      exact hm_zret hx hb hr rfl hlocks hS hH (pI_of (by unfold isFor; rw [decide_eq_true (m_cmp.mp c2), decide_eq_false c3]; simp [bI])) (Nat.le_of_ble_eq_true rfl) (Nat.le_of_ble_eq_true rfl) dX2_isFor_31
    · refine lv_aload_n hx hb dX2_isFor_17 rfl (lv_at hl 0 rfl) ?_
      refine gf_X2_21 hx hb hts hown hK hH ha rfl dX2_isFor_18 ?_
      refine lv_iload hx hb dX2_isFor_21 (lv_at hl 3 rfl) ?_
      refine lv_icmp_ne (tgt := 30) hx hb dX2_isFor_23 (by decide) (fun c4 => ?_) (fun c4 => ?_)
      · refine lv_iconst (v := 0) hx hb dX2_isFor_30 (by decide) ?_
        exact hm_zret hx hb hr rfl hlocks hS hH (pI_of (by unfold isFor; rw [decide_eq_true (m_cmp.mp c2), decide_eq_true c3, decide_eq_false c4]; simp [bI])) (Nat.le_of_ble_eq_true rfl) (Nat.le_of_ble_eq_true rfl) dX2_isFor_31
      · refine lv_iconst (v := 1) hx hb dX2_isFor_26 (by decide) ?_
        refine lv_goto (tgt := 31) hx hb dX2_isFor_27 (by decide) ?_
        exact hm_zret hx hb hr rfl hlocks hS hH (pI_of (by unfold isFor; rw [decide_eq_true (m_cmp.mp c2), decide_eq_true c3, decide_eq_true c4]; simp [bI])) (Nat.le_of_ble_eq_true rfl) (Nat.le_of_ble_eq_true rfl) dX2_isFor_31
set_option maxHeartbeats 4000000 in
set_option maxRecDepth 100000 in
theorem c_X2_become (Γ : Gm) (l : Launch) (a b : Nat) (x y : EV) (f : Hm) (hne_b_a : b ≠ a) (ha : f a = some (ev x)) (hb1 : f b = some (ev y)) : Ct Γ l yX2_become cX2_become 2 (none : Option Jvm.ClassFile.FieldType) 1 0 0 [.ref a, .ref b] f (pV (hm_up f a (ev y))) := by
  refine Ct_of (by decide +kernel) (Nat.le_of_ble_eq_true rfl) ?_
  intro p e s m args below meth c hx hb hr hml hown hin hlocks hts hH hO hK ls hl
  have hl : lv_has ls 2 [(0, .ref a), (1, .ref b)] := hl
  have hS : va_S (gA Γ) s.heap s.heap [] := va_S.rf
  refine lv_aload_n hx hb dX2_become_0 rfl (lv_at hl 0 rfl) ?_
  refine lv_aload_n hx hb dX2_become_1 rfl (lv_at hl 1 rfl) ?_
  refine gf_X2_11 hx hb hts hown hK hH hb1 rfl dX2_become_2 ?_
  refine pf_X2_11 hx hb hts hown hK hO hS hH ha rfl (Nat.le_of_ble_eq_true rfl) rfl dX2_become_5 (fun H locs hH hS => ?_)
  obtain ⟨f1, ef1⟩ : ∃ zz_, zz_ = hm_up f a (eR 2 [.long y.1, .int x.2.1, .int x.2.2.1, .int x.2.2.2.1, .int x.2.2.2.2.1, .int x.2.2.2.2.2.1, .int x.2.2.2.2.2.2]) := ⟨_, rfl⟩
  have hH : hm_H Γ f1 H := by rw [ef1]; exact hH
  have h2 : f1 a = some (eR 2 [.long y.1, .int x.2.1, .int x.2.2.1, .int x.2.2.2.1, .int x.2.2.2.2.1, .int x.2.2.2.2.2.1, .int x.2.2.2.2.2.2]) := by rw [ef1]; exact hm_us
  have h3 : f1 b = some (eR 2 [.long y.1, .int y.2.1, .int y.2.2.1, .int y.2.2.2.1, .int y.2.2.2.2.1, .int y.2.2.2.2.2.1, .int y.2.2.2.2.2.2]) := by rw [ef1]; exact (hm_un hne_b_a).trans hb1
  refine lv_aload_n hx hb dX2_become_8 rfl (lv_at hl 0 rfl) ?_
  refine lv_aload_n hx hb dX2_become_9 rfl (lv_at hl 1 rfl) ?_
  refine gf_X2_17 hx hb hts hown hK hH h3 rfl dX2_become_10 ?_
  refine pf_X2_17 hx hb hts hown hK hO hS hH h2 rfl (Nat.le_of_ble_eq_true rfl) rfl dX2_become_13 (fun H locs hH hS => ?_)
  obtain ⟨f4, ef4⟩ : ∃ zz_, zz_ = hm_up f1 a (eR 2 [.long y.1, .int y.2.1, .int x.2.2.1, .int x.2.2.2.1, .int x.2.2.2.2.1, .int x.2.2.2.2.2.1, .int x.2.2.2.2.2.2]) := ⟨_, rfl⟩
  have hH : hm_H Γ f4 H := by rw [ef4]; exact hH
  have h5 : f4 a = some (eR 2 [.long y.1, .int y.2.1, .int x.2.2.1, .int x.2.2.2.1, .int x.2.2.2.2.1, .int x.2.2.2.2.2.1, .int x.2.2.2.2.2.2]) := by rw [ef4]; exact hm_us
  have h6 : f4 b = some (eR 2 [.long y.1, .int y.2.1, .int y.2.2.1, .int y.2.2.2.1, .int y.2.2.2.2.1, .int y.2.2.2.2.2.1, .int y.2.2.2.2.2.2]) := by rw [ef4]; exact (hm_un hne_b_a).trans h3
  refine lv_aload_n hx hb dX2_become_16 rfl (lv_at hl 0 rfl) ?_
  refine lv_aload_n hx hb dX2_become_17 rfl (lv_at hl 1 rfl) ?_
  refine gf_X2_21 hx hb hts hown hK hH h6 rfl dX2_become_18 ?_
  refine pf_X2_21 hx hb hts hown hK hO hS hH h5 rfl (Nat.le_of_ble_eq_true rfl) rfl dX2_become_21 (fun H locs hH hS => ?_)
  obtain ⟨f7, ef7⟩ : ∃ zz_, zz_ = hm_up f4 a (eR 2 [.long y.1, .int y.2.1, .int y.2.2.1, .int x.2.2.2.1, .int x.2.2.2.2.1, .int x.2.2.2.2.2.1, .int x.2.2.2.2.2.2]) := ⟨_, rfl⟩
  have hH : hm_H Γ f7 H := by rw [ef7]; exact hH
  have h8 : f7 a = some (eR 2 [.long y.1, .int y.2.1, .int y.2.2.1, .int x.2.2.2.1, .int x.2.2.2.2.1, .int x.2.2.2.2.2.1, .int x.2.2.2.2.2.2]) := by rw [ef7]; exact hm_us
  have h9 : f7 b = some (eR 2 [.long y.1, .int y.2.1, .int y.2.2.1, .int y.2.2.2.1, .int y.2.2.2.2.1, .int y.2.2.2.2.2.1, .int y.2.2.2.2.2.2]) := by rw [ef7]; exact (hm_un hne_b_a).trans h6
  refine lv_aload_n hx hb dX2_become_24 rfl (lv_at hl 0 rfl) ?_
  refine lv_aload_n hx hb dX2_become_25 rfl (lv_at hl 1 rfl) ?_
  refine gf_X2_24 hx hb hts hown hK hH h9 rfl dX2_become_26 ?_
  refine pf_X2_24 hx hb hts hown hK hO hS hH h8 rfl (Nat.le_of_ble_eq_true rfl) rfl dX2_become_29 (fun H locs hH hS => ?_)
  obtain ⟨f10, ef10⟩ : ∃ zz_, zz_ = hm_up f7 a (eR 2 [.long y.1, .int y.2.1, .int y.2.2.1, .int y.2.2.2.1, .int x.2.2.2.2.1, .int x.2.2.2.2.2.1, .int x.2.2.2.2.2.2]) := ⟨_, rfl⟩
  have hH : hm_H Γ f10 H := by rw [ef10]; exact hH
  have h11 : f10 a = some (eR 2 [.long y.1, .int y.2.1, .int y.2.2.1, .int y.2.2.2.1, .int x.2.2.2.2.1, .int x.2.2.2.2.2.1, .int x.2.2.2.2.2.2]) := by rw [ef10]; exact hm_us
  have h12 : f10 b = some (eR 2 [.long y.1, .int y.2.1, .int y.2.2.1, .int y.2.2.2.1, .int y.2.2.2.2.1, .int y.2.2.2.2.2.1, .int y.2.2.2.2.2.2]) := by rw [ef10]; exact (hm_un hne_b_a).trans h9
  refine lv_aload_n hx hb dX2_become_32 rfl (lv_at hl 0 rfl) ?_
  refine lv_aload_n hx hb dX2_become_33 rfl (lv_at hl 1 rfl) ?_
  refine gf_X2_27 hx hb hts hown hK hH h12 rfl dX2_become_34 ?_
  refine pf_X2_27 hx hb hts hown hK hO hS hH h11 rfl (Nat.le_of_ble_eq_true rfl) rfl dX2_become_37 (fun H locs hH hS => ?_)
  obtain ⟨f13, ef13⟩ : ∃ zz_, zz_ = hm_up f10 a (eR 2 [.long y.1, .int y.2.1, .int y.2.2.1, .int y.2.2.2.1, .int y.2.2.2.2.1, .int x.2.2.2.2.2.1, .int x.2.2.2.2.2.2]) := ⟨_, rfl⟩
  have hH : hm_H Γ f13 H := by rw [ef13]; exact hH
  have h14 : f13 a = some (eR 2 [.long y.1, .int y.2.1, .int y.2.2.1, .int y.2.2.2.1, .int y.2.2.2.2.1, .int x.2.2.2.2.2.1, .int x.2.2.2.2.2.2]) := by rw [ef13]; exact hm_us
  have h15 : f13 b = some (eR 2 [.long y.1, .int y.2.1, .int y.2.2.1, .int y.2.2.2.1, .int y.2.2.2.2.1, .int y.2.2.2.2.2.1, .int y.2.2.2.2.2.2]) := by rw [ef13]; exact (hm_un hne_b_a).trans h12
  refine lv_aload_n hx hb dX2_become_40 rfl (lv_at hl 0 rfl) ?_
  refine lv_aload_n hx hb dX2_become_41 rfl (lv_at hl 1 rfl) ?_
  refine gf_X2_30 hx hb hts hown hK hH h15 rfl dX2_become_42 ?_
  refine pf_X2_30 hx hb hts hown hK hO hS hH h14 rfl (Nat.le_of_ble_eq_true rfl) rfl dX2_become_45 (fun H locs hH hS => ?_)
  obtain ⟨f16, ef16⟩ : ∃ zz_, zz_ = hm_up f13 a (eR 2 [.long y.1, .int y.2.1, .int y.2.2.1, .int y.2.2.2.1, .int y.2.2.2.2.1, .int y.2.2.2.2.2.1, .int x.2.2.2.2.2.2]) := ⟨_, rfl⟩
  have hH : hm_H Γ f16 H := by rw [ef16]; exact hH
  have h17 : f16 a = some (eR 2 [.long y.1, .int y.2.1, .int y.2.2.1, .int y.2.2.2.1, .int y.2.2.2.2.1, .int y.2.2.2.2.2.1, .int x.2.2.2.2.2.2]) := by rw [ef16]; exact hm_us
  have h18 : f16 b = some (eR 2 [.long y.1, .int y.2.1, .int y.2.2.1, .int y.2.2.2.1, .int y.2.2.2.2.1, .int y.2.2.2.2.2.1, .int y.2.2.2.2.2.2]) := by rw [ef16]; exact (hm_un hne_b_a).trans h15
  refine lv_aload_n hx hb dX2_become_48 rfl (lv_at hl 0 rfl) ?_
  refine lv_aload_n hx hb dX2_become_49 rfl (lv_at hl 1 rfl) ?_
  refine gf_X2_33 hx hb hts hown hK hH h18 rfl dX2_become_50 ?_
  refine pf_X2_33 hx hb hts hown hK hO hS hH h17 rfl (Nat.le_of_ble_eq_true rfl) rfl dX2_become_53 (fun H locs hH hS => ?_)
  obtain ⟨f19, ef19⟩ : ∃ zz_, zz_ = hm_up f16 a (eR 2 [.long y.1, .int y.2.1, .int y.2.2.1, .int y.2.2.2.1, .int y.2.2.2.2.1, .int y.2.2.2.2.2.1, .int y.2.2.2.2.2.2]) := ⟨_, rfl⟩
  have hH : hm_H Γ f19 H := by rw [ef19]; exact hH
  have h20 : f19 a = some (eR 2 [.long y.1, .int y.2.1, .int y.2.2.1, .int y.2.2.2.1, .int y.2.2.2.2.1, .int y.2.2.2.2.2.1, .int y.2.2.2.2.2.2]) := by rw [ef19]; exact hm_us
  have h21 : f19 b = some (eR 2 [.long y.1, .int y.2.1, .int y.2.2.1, .int y.2.2.2.1, .int y.2.2.2.2.1, .int y.2.2.2.2.2.1, .int y.2.2.2.2.2.2]) := by rw [ef19]; exact (hm_un hne_b_a).trans h18
  subst ef19
  subst ef16
  subst ef13
  subst ef10
  subst ef7
  subst ef4
  subst ef1
  exact hm_vret hx hb hr hlocks hS hH (⟨rfl, by simp only [hm_uu]⟩) (Nat.le_of_ble_eq_true rfl) (Nat.le_of_ble_eq_true rfl) dX2_become_56
set_option maxHeartbeats 4000000 in
set_option maxRecDepth 100000 in
theorem c_X2_init (Γ : Gm) (l : Launch) (a : Nat) (x : EV) (f : Hm) (ha : f a = some (ev x)) : Ct Γ l yX2_init cX2_init 1 (none : Option Jvm.ClassFile.FieldType) 1 0 0 [.ref a] f (pV (hm_up f a (ev (0, 0, 0, 0, -1, 0, 0)))) := by
  refine Ct_of (by decide +kernel) (Nat.le_of_ble_eq_true rfl) ?_
  intro p e s m args below meth c hx hb hr hml hown hin hlocks hts hH hO hK ls hl
  have hl : lv_has ls 1 [(0, .ref a)] := hl
  have hS : va_S (gA Γ) s.heap s.heap [] := va_S.rf
  refine lv_aload_n hx hb dX2_init_0 rfl (lv_at hl 0 rfl) ?_
  refine W.objInit hx hb hown (hts _ q1_91) (hts _ q1_48) (hts _ q1_49) rfl (by rw [hml]; exact hl.1) rfl dX2_init_1 (Nat.le_of_ble_eq_true rfl) (Nat.le_of_ble_eq_true rfl) ?_
  refine W.eq (g2 := F0 m 4 ls []) rfl ?_
  refine lv_aload_n hx hb dX2_init_4 rfl (lv_at hl 0 rfl) ?_
  refine lv_lconst (v := 0) hx hb dX2_init_5 (by decide) ?_
  refine pf_X2_11 hx hb hts hown hK hO hS hH ha rfl (Nat.le_of_ble_eq_true rfl) rfl dX2_init_6 (fun H locs hH hS => ?_)
  obtain ⟨f1, ef1⟩ : ∃ zz_, zz_ = hm_up f a (eR 2 [.long 0, .int x.2.1, .int x.2.2.1, .int x.2.2.2.1, .int x.2.2.2.2.1, .int x.2.2.2.2.2.1, .int x.2.2.2.2.2.2]) := ⟨_, rfl⟩
  have hH : hm_H Γ f1 H := by rw [ef1]; exact hH
  have h2 : f1 a = some (eR 2 [.long 0, .int x.2.1, .int x.2.2.1, .int x.2.2.2.1, .int x.2.2.2.2.1, .int x.2.2.2.2.2.1, .int x.2.2.2.2.2.2]) := by rw [ef1]; exact hm_us
  refine lv_aload_n hx hb dX2_init_9 rfl (lv_at hl 0 rfl) ?_
  refine lv_iconst (v := 0) hx hb dX2_init_10 (by decide) ?_
  refine pf_X2_17 hx hb hts hown hK hO hS hH h2 rfl (Nat.le_of_ble_eq_true rfl) rfl dX2_init_11 (fun H locs hH hS => ?_)
  obtain ⟨f3, ef3⟩ : ∃ zz_, zz_ = hm_up f1 a (eR 2 [.long 0, .int 0, .int x.2.2.1, .int x.2.2.2.1, .int x.2.2.2.2.1, .int x.2.2.2.2.2.1, .int x.2.2.2.2.2.2]) := ⟨_, rfl⟩
  have hH : hm_H Γ f3 H := by rw [ef3]; exact hH
  have h4 : f3 a = some (eR 2 [.long 0, .int 0, .int x.2.2.1, .int x.2.2.2.1, .int x.2.2.2.2.1, .int x.2.2.2.2.2.1, .int x.2.2.2.2.2.2]) := by rw [ef3]; exact hm_us
  refine lv_aload_n hx hb dX2_init_14 rfl (lv_at hl 0 rfl) ?_
  refine lv_iconst (v := 0) hx hb dX2_init_15 (by decide) ?_
  refine pf_X2_21 hx hb hts hown hK hO hS hH h4 rfl (Nat.le_of_ble_eq_true rfl) rfl dX2_init_16 (fun H locs hH hS => ?_)
  obtain ⟨f5, ef5⟩ : ∃ zz_, zz_ = hm_up f3 a (eR 2 [.long 0, .int 0, .int 0, .int x.2.2.2.1, .int x.2.2.2.2.1, .int x.2.2.2.2.2.1, .int x.2.2.2.2.2.2]) := ⟨_, rfl⟩
  have hH : hm_H Γ f5 H := by rw [ef5]; exact hH
  have h6 : f5 a = some (eR 2 [.long 0, .int 0, .int 0, .int x.2.2.2.1, .int x.2.2.2.2.1, .int x.2.2.2.2.2.1, .int x.2.2.2.2.2.2]) := by rw [ef5]; exact hm_us
  refine lv_aload_n hx hb dX2_init_19 rfl (lv_at hl 0 rfl) ?_
  refine lv_iconst (v := 0) hx hb dX2_init_20 (by decide) ?_
  refine pf_X2_24 hx hb hts hown hK hO hS hH h6 rfl (Nat.le_of_ble_eq_true rfl) rfl dX2_init_21 (fun H locs hH hS => ?_)
  obtain ⟨f7, ef7⟩ : ∃ zz_, zz_ = hm_up f5 a (eR 2 [.long 0, .int 0, .int 0, .int 0, .int x.2.2.2.2.1, .int x.2.2.2.2.2.1, .int x.2.2.2.2.2.2]) := ⟨_, rfl⟩
  have hH : hm_H Γ f7 H := by rw [ef7]; exact hH
  have h8 : f7 a = some (eR 2 [.long 0, .int 0, .int 0, .int 0, .int x.2.2.2.2.1, .int x.2.2.2.2.2.1, .int x.2.2.2.2.2.2]) := by rw [ef7]; exact hm_us
  refine lv_aload_n hx hb dX2_init_24 rfl (lv_at hl 0 rfl) ?_
  refine lv_iconst (v := (-1)) hx hb dX2_init_25 (by decide) ?_
  refine pf_X2_27 hx hb hts hown hK hO hS hH h8 rfl (Nat.le_of_ble_eq_true rfl) rfl dX2_init_26 (fun H locs hH hS => ?_)
  obtain ⟨f9, ef9⟩ : ∃ zz_, zz_ = hm_up f7 a (eR 2 [.long 0, .int 0, .int 0, .int 0, .int ((-1)), .int x.2.2.2.2.2.1, .int x.2.2.2.2.2.2]) := ⟨_, rfl⟩
  have hH : hm_H Γ f9 H := by rw [ef9]; exact hH
  have h10 : f9 a = some (eR 2 [.long 0, .int 0, .int 0, .int 0, .int ((-1)), .int x.2.2.2.2.2.1, .int x.2.2.2.2.2.2]) := by rw [ef9]; exact hm_us
  refine lv_aload_n hx hb dX2_init_29 rfl (lv_at hl 0 rfl) ?_
  refine lv_iconst (v := 0) hx hb dX2_init_30 (by decide) ?_
  refine pf_X2_30 hx hb hts hown hK hO hS hH h10 rfl (Nat.le_of_ble_eq_true rfl) rfl dX2_init_31 (fun H locs hH hS => ?_)
  obtain ⟨f11, ef11⟩ : ∃ zz_, zz_ = hm_up f9 a (eR 2 [.long 0, .int 0, .int 0, .int 0, .int ((-1)), .int 0, .int x.2.2.2.2.2.2]) := ⟨_, rfl⟩
  have hH : hm_H Γ f11 H := by rw [ef11]; exact hH
  have h12 : f11 a = some (eR 2 [.long 0, .int 0, .int 0, .int 0, .int ((-1)), .int 0, .int x.2.2.2.2.2.2]) := by rw [ef11]; exact hm_us
  refine lv_aload_n hx hb dX2_init_34 rfl (lv_at hl 0 rfl) ?_
  refine lv_iconst (v := 0) hx hb dX2_init_35 (by decide) ?_
  refine pf_X2_33 hx hb hts hown hK hO hS hH h12 rfl (Nat.le_of_ble_eq_true rfl) rfl dX2_init_36 (fun H locs hH hS => ?_)
  obtain ⟨f13, ef13⟩ : ∃ zz_, zz_ = hm_up f11 a (eR 2 [.long 0, .int 0, .int 0, .int 0, .int ((-1)), .int 0, .int 0]) := ⟨_, rfl⟩
  have hH : hm_H Γ f13 H := by rw [ef13]; exact hH
  have h14 : f13 a = some (eR 2 [.long 0, .int 0, .int 0, .int 0, .int ((-1)), .int 0, .int 0]) := by rw [ef13]; exact hm_us
  subst ef13
  subst ef11
  subst ef9
  subst ef7
  subst ef5
  subst ef3
  subst ef1
  exact hm_vret hx hb hr hlocks hS hH (⟨rfl, by simp only [hm_uu]⟩) (Nat.le_of_ble_eq_true rfl) (Nat.le_of_ble_eq_true rfl) dX2_init_39
set_option maxHeartbeats 4000000 in
set_option maxRecDepth 100000 in
theorem c_X4_init (Γ : Gm) (l : Launch) (a : Nat) (x1 x2 x3 n mo : Int32) (f : Hm) (ha : f a = some (eR 4 [.int x1, .int x2, .int x3])) : Ct Γ l yX4_init cX4_init 3 (none : Option Jvm.ClassFile.FieldType) 1 0 0 [.ref a, .int n, .int mo] f (pV (hm_up f a (eR 4 [.int n, .int mo, .int mo]))) := by
  refine Ct_of (by decide +kernel) (Nat.le_of_ble_eq_true rfl) ?_
  intro p e s m args below meth c hx hb hr hml hown hin hlocks hts hH hO hK ls hl
  have hl : lv_has ls 3 [(0, .ref a), (1, .int n), (2, .int mo)] := hl
  have hS : va_S (gA Γ) s.heap s.heap [] := va_S.rf
  refine lv_aload_n hx hb dX4_init_0 rfl (lv_at hl 0 rfl) ?_
  refine W.objInit hx hb hown (hts _ q2_101) (hts _ q1_48) (hts _ q1_49) rfl (by rw [hml]; exact hl.1) rfl dX4_init_1 (Nat.le_of_ble_eq_true rfl) (Nat.le_of_ble_eq_true rfl) ?_
  refine W.eq (g2 := F0 m 4 ls []) rfl ?_
  refine lv_aload_n hx hb dX4_init_4 rfl (lv_at hl 0 rfl) ?_
  refine lv_iload_n hx hb dX4_init_5 rfl (lv_at hl 1 rfl) ?_
  refine pF_X4_7 hx hb hts hown hin hK hO hS hH ha rfl (Nat.le_of_ble_eq_true rfl) rfl dX4_init_6 (fun H locs hH hS => ?_)
  obtain ⟨f1, ef1⟩ : ∃ zz_, zz_ = hm_up f a (eR 4 [.int n, .int x2, .int x3]) := ⟨_, rfl⟩
  have hH : hm_H Γ f1 H := by rw [ef1]; exact hH
  have h2 : f1 a = some (eR 4 [.int n, .int x2, .int x3]) := by rw [ef1]; exact hm_us
  refine lv_aload_n hx hb dX4_init_9 rfl (lv_at hl 0 rfl) ?_
  refine lv_iload_n hx hb dX4_init_10 rfl (lv_at hl 2 rfl) ?_
  refine pF_X4_13 hx hb hts hown hin hK hO hS hH h2 rfl (Nat.le_of_ble_eq_true rfl) rfl dX4_init_11 (fun H locs hH hS => ?_)
  obtain ⟨f3, ef3⟩ : ∃ zz_, zz_ = hm_up f1 a (eR 4 [.int n, .int mo, .int x3]) := ⟨_, rfl⟩
  have hH : hm_H Γ f3 H := by rw [ef3]; exact hH
  have h4 : f3 a = some (eR 4 [.int n, .int mo, .int x3]) := by rw [ef3]; exact hm_us
  refine lv_aload_n hx hb dX4_init_14 rfl (lv_at hl 0 rfl) ?_
  refine lv_iload_n hx hb dX4_init_15 rfl (lv_at hl 2 rfl) ?_
  refine pf_X4_16 hx hb hts hown hK hO hS hH h4 rfl (Nat.le_of_ble_eq_true rfl) rfl dX4_init_16 (fun H locs hH hS => ?_)
  obtain ⟨f5, ef5⟩ : ∃ zz_, zz_ = hm_up f3 a (eR 4 [.int n, .int mo, .int mo]) := ⟨_, rfl⟩
  have hH : hm_H Γ f5 H := by rw [ef5]; exact hH
  have h6 : f5 a = some (eR 4 [.int n, .int mo, .int mo]) := by rw [ef5]; exact hm_us
  subst ef5
  subst ef3
  subst ef1
  exact hm_vret hx hb hr hlocks hS hH (⟨rfl, by simp only [hm_uu]⟩) (Nat.le_of_ble_eq_true rfl) (Nat.le_of_ble_eq_true rfl) dX4_init_19
set_option maxHeartbeats 4000000 in
set_option maxRecDepth 100000 in
theorem c_X5_init (Γ : Gm) (l : Launch) (a ca : Nat) (x1 x2 x3 : Int32) (f : Hm) (ha : f a = some (eR 5 [.null, .int x1, .int x2, .int x3])) : Ct Γ l yX5_init cX5_init 2 (none : Option Jvm.ClassFile.FieldType) 1 0 0 [.ref a, .ref ca] f (pV (hm_up f a (eR 5 [.ref ca, .int 0, .int 0, .int (-1)]))) := by
  refine Ct_of (by decide +kernel) (Nat.le_of_ble_eq_true rfl) ?_
  intro p e s m args below meth c hx hb hr hml hown hin hlocks hts hH hO hK ls hl
  have hl : lv_has ls 2 [(0, .ref a), (1, .ref ca)] := hl
  have hS : va_S (gA Γ) s.heap s.heap [] := va_S.rf
  refine lv_aload_n hx hb dX5_init_0 rfl (lv_at hl 0 rfl) ?_
  refine W.objInit hx hb hown (hts _ q1_147) (hts _ q1_48) (hts _ q1_49) rfl (by rw [hml]; exact hl.1) rfl dX5_init_1 (Nat.le_of_ble_eq_true rfl) (Nat.le_of_ble_eq_true rfl) ?_
  refine W.eq (g2 := F0 m 4 ls []) rfl ?_
  refine lv_aload_n hx hb dX5_init_4 rfl (lv_at hl 0 rfl) ?_
  refine lv_iconst (v := 0) hx hb dX5_init_5 (by decide) ?_
  refine pf_X5_9 hx hb hts hown hK hO hS hH ha rfl (Nat.le_of_ble_eq_true rfl) rfl dX5_init_6 (fun H locs hH hS => ?_)
  obtain ⟨f1, ef1⟩ : ∃ zz_, zz_ = hm_up f a (eR 5 [.null, .int 0, .int x2, .int x3]) := ⟨_, rfl⟩
  have hH : hm_H Γ f1 H := by rw [ef1]; exact hH
  have h2 : f1 a = some (eR 5 [.null, .int 0, .int x2, .int x3]) := by rw [ef1]; exact hm_us
  refine lv_aload_n hx hb dX5_init_9 rfl (lv_at hl 0 rfl) ?_
  refine lv_iconst (v := 0) hx hb dX5_init_10 (by decide) ?_
  refine pf_X5_15 hx hb hts hown hK hO hS hH h2 rfl (Nat.le_of_ble_eq_true rfl) rfl dX5_init_11 (fun H locs hH hS => ?_)
  obtain ⟨f3, ef3⟩ : ∃ zz_, zz_ = hm_up f1 a (eR 5 [.null, .int 0, .int 0, .int x3]) := ⟨_, rfl⟩
  have hH : hm_H Γ f3 H := by rw [ef3]; exact hH
  have h4 : f3 a = some (eR 5 [.null, .int 0, .int 0, .int x3]) := by rw [ef3]; exact hm_us
  refine lv_aload_n hx hb dX5_init_14 rfl (lv_at hl 0 rfl) ?_
  refine lv_iconst (v := (-1)) hx hb dX5_init_15 (by decide) ?_
  refine pf_X5_18 hx hb hts hown hK hO hS hH h4 rfl (Nat.le_of_ble_eq_true rfl) rfl dX5_init_16 (fun H locs hH hS => ?_)
  obtain ⟨f5, ef5⟩ : ∃ zz_, zz_ = hm_up f3 a (eR 5 [.null, .int 0, .int 0, .int ((-1))]) := ⟨_, rfl⟩
  have hH : hm_H Γ f5 H := by rw [ef5]; exact hH
  have h6 : f5 a = some (eR 5 [.null, .int 0, .int 0, .int ((-1))]) := by rw [ef5]; exact hm_us
  refine lv_aload_n hx hb dX5_init_19 rfl (lv_at hl 0 rfl) ?_
  refine lv_aload_n hx hb dX5_init_20 rfl (lv_at hl 1 rfl) ?_
  refine pF_X5_21 hx hb hts hown hin hK hO hS hH h6 rfl (Nat.le_of_ble_eq_true rfl) rfl dX5_init_21 (fun H locs hH hS => ?_)
  obtain ⟨f7, ef7⟩ : ∃ zz_, zz_ = hm_up f5 a (eR 5 [.ref ca, .int 0, .int 0, .int ((-1))]) := ⟨_, rfl⟩
  have hH : hm_H Γ f7 H := by rw [ef7]; exact hH
  have h8 : f7 a = some (eR 5 [.ref ca, .int 0, .int 0, .int ((-1))]) := by rw [ef7]; exact hm_us
  subst ef7
  subst ef5
  subst ef3
  subst ef1
  exact hm_vret hx hb hr hlocks hS hH (⟨rfl, by simp only [hm_uu]⟩) (Nat.le_of_ble_eq_true rfl) (Nat.le_of_ble_eq_true rfl) dX5_init_24
set_option maxHeartbeats 4000000 in
set_option maxRecDepth 100000 in
theorem c_X5_start (Γ : Gm) (l : Launch) (a ca : Nat) (x1 x2 x3 : Int32) (f : Hm) (ha : f a = some (eR 5 [.ref ca, .int x1, .int x2, .int x3])) : Ct Γ l yX5_start cX5_start 1 (none : Option Jvm.ClassFile.FieldType) 1 0 0 [.ref a] f (pV (hm_up f a (eR 5 [.ref ca, .int 0, .int 0, .int (-1)]))) := by
  refine Ct_of (by decide +kernel) (Nat.le_of_ble_eq_true rfl) ?_
  intro p e s m args below meth c hx hb hr hml hown hin hlocks hts hH hO hK ls hl
  have hl : lv_has ls 1 [(0, .ref a)] := hl
  have hS : va_S (gA Γ) s.heap s.heap [] := va_S.rf
  refine lv_aload_n hx hb dX5_start_0 rfl (lv_at hl 0 rfl) ?_
  refine lv_iconst (v := 0) hx hb dX5_start_1 (by decide) ?_
  refine pf_X5_9 hx hb hts hown hK hO hS hH ha rfl (Nat.le_of_ble_eq_true rfl) rfl dX5_start_2 (fun H locs hH hS => ?_)
  obtain ⟨f1, ef1⟩ : ∃ zz_, zz_ = hm_up f a (eR 5 [.ref ca, .int 0, .int x2, .int x3]) := ⟨_, rfl⟩
  have hH : hm_H Γ f1 H := by rw [ef1]; exact hH
  have h2 : f1 a = some (eR 5 [.ref ca, .int 0, .int x2, .int x3]) := by rw [ef1]; exact hm_us
  refine lv_aload_n hx hb dX5_start_5 rfl (lv_at hl 0 rfl) ?_
  refine lv_iconst (v := 0) hx hb dX5_start_6 (by decide) ?_
  refine pf_X5_15 hx hb hts hown hK hO hS hH h2 rfl (Nat.le_of_ble_eq_true rfl) rfl dX5_start_7 (fun H locs hH hS => ?_)
  obtain ⟨f3, ef3⟩ : ∃ zz_, zz_ = hm_up f1 a (eR 5 [.ref ca, .int 0, .int 0, .int x3]) := ⟨_, rfl⟩
  have hH : hm_H Γ f3 H := by rw [ef3]; exact hH
  have h4 : f3 a = some (eR 5 [.ref ca, .int 0, .int 0, .int x3]) := by rw [ef3]; exact hm_us
  refine lv_aload_n hx hb dX5_start_10 rfl (lv_at hl 0 rfl) ?_
  refine lv_iconst (v := (-1)) hx hb dX5_start_11 (by decide) ?_
  refine pf_X5_18 hx hb hts hown hK hO hS hH h4 rfl (Nat.le_of_ble_eq_true rfl) rfl dX5_start_12 (fun H locs hH hS => ?_)
  obtain ⟨f5, ef5⟩ : ∃ zz_, zz_ = hm_up f3 a (eR 5 [.ref ca, .int 0, .int 0, .int ((-1))]) := ⟨_, rfl⟩
  have hH : hm_H Γ f5 H := by rw [ef5]; exact hH
  have h6 : f5 a = some (eR 5 [.ref ca, .int 0, .int 0, .int ((-1))]) := by rw [ef5]; exact hm_us
  subst ef5
  subst ef3
  subst ef1
  exact hm_vret hx hb hr hlocks hS hH (⟨rfl, by simp only [hm_uu]⟩) (Nat.le_of_ble_eq_true rfl) (Nat.le_of_ble_eq_true rfl) dX5_start_15
set_option maxHeartbeats 4000000 in
set_option maxRecDepth 100000 in
theorem c_X5_cost (Γ : Gm) (l : Launch) (a ca : Nat) (x1 x2 x3 : Int32) (f : Hm) (ha : f a = some (eR 5 [.ref ca, .int x1, .int x2, .int x3])) : Ct Γ l yX5_cost cX5_cost 1 (some .int) 2 0 0 [.ref a] f (pI (mxI x2 1) f) := by
  refine Ct_of (by decide +kernel) (Nat.le_of_ble_eq_true rfl) ?_
  intro p e s m args below meth c hx hb hr hml hown hin hlocks hts hH hO hK ls hl
  have hl : lv_has ls 1 [(0, .ref a)] := hl
  have hS : va_S (gA Γ) s.heap s.heap [] := va_S.rf
  refine lv_aload_n hx hb dX5_cost_0 rfl (lv_at hl 0 rfl) ?_
  refine gf_X5_15 hx hb hts hown hK hH ha rfl dX5_cost_1 ?_
  refine lv_iconst (v := 1) hx hb dX5_cost_4 (by decide) ?_
  refine hm_max (rest := []) hx hb hml hl.1 hown hts q3_220 (Nat.le_of_ble_eq_true rfl) (Nat.le_of_ble_eq_true rfl) (by first | exact Nat.le_of_ble_eq_true rfl | omega) (by first | exact Nat.le_of_ble_eq_true rfl | omega) dX5_cost_5 ?_
  exact hm_iret hx hb hr hlocks hS hH (pI_of (rfl)) (Nat.le_of_ble_eq_true rfl) (Nat.le_of_ble_eq_true rfl) dX5_cost_8
set_option maxHeartbeats 4000000 in
set_option maxRecDepth 100000 in
theorem c_X6_init (Γ : Gm) (l : Launch) (a ga o : Nat) (x1 x3 x4 pu : Int32) (x2 : Int64) (bd : Int64) (z n m1 m2 pb sc pc0 rw0 lr pd vd : Int32) (f : Hm) (ha : f a = some (eR 6 [.int x1, .long x2, .int x3, .int x4])) (hg : f ga = some (eR 3 [.ref o, .int pb, .long bd, .int z, .int sc, .int pc0, .int rw0, .int lr, .int pd, .int vd])) (ho : f o = some (eR 4 [.int n, .int m1, .int m2])) : Ct Γ l yX6_init cX6_init 3 (none : Option Jvm.ClassFile.FieldType) 1 0 0 [.ref a, .ref ga, .int pu] f (pV (hm_up f a (eR 6 [.int n, .long bd, .int z, .int pu]))) := by
  refine Ct_of (by decide +kernel) (Nat.le_of_ble_eq_true rfl) ?_
  intro p e s m args below meth c hx hb hr hml hown hin hlocks hts hH hO hK ls hl
  have hl : lv_has ls 3 [(0, .ref a), (1, .ref ga), (2, .int pu)] := hl
  have hS : va_S (gA Γ) s.heap s.heap [] := va_S.rf
  refine lv_aload_n hx hb dX6_init_0 rfl (lv_at hl 0 rfl) ?_
  refine W.objInit hx hb hown (hts _ q4_6) (hts _ q1_48) (hts _ q1_49) rfl (by rw [hml]; exact hl.1) rfl dX6_init_1 (Nat.le_of_ble_eq_true rfl) (Nat.le_of_ble_eq_true rfl) ?_
  refine W.eq (g2 := F0 m 4 ls []) rfl ?_
  refine lv_aload_n hx hb dX6_init_4 rfl (lv_at hl 0 rfl) ?_
  refine lv_aload_n hx hb dX6_init_5 rfl (lv_at hl 1 rfl) ?_
  refine gf_X6_7 hx hb hts hown hK hH hg rfl dX6_init_6 ?_
  refine gf_X6_13 hx hb hts hown hK hH ho rfl dX6_init_9 ?_
  refine pF_X6_19 hx hb hts hown hin hK hO hS hH ha rfl (Nat.le_of_ble_eq_true rfl) rfl dX6_init_12 (fun H locs hH hS => ?_)
  obtain ⟨f1, ef1⟩ : ∃ zz_, zz_ = hm_up f a (eR 6 [.int n, .long x2, .int x3, .int x4]) := ⟨_, rfl⟩
  have hH : hm_H Γ f1 H := by rw [ef1]; exact hH
  have h2 : f1 a = some (eR 6 [.int n, .long x2, .int x3, .int x4]) := by rw [ef1]; exact hm_us
  have h3 : f1 ga = some (eR 3 [.ref o, .int pb, .long bd, .int z, .int sc, .int pc0, .int rw0, .int lr, .int pd, .int vd]) := by rw [ef1]; exact (hm_un (hm_ne hg ha (fun q => by injection q with q; injection q with q; cases q))).trans hg
  have h4 : f1 o = some (eR 4 [.int n, .int m1, .int m2]) := by rw [ef1]; exact (hm_un (hm_ne ho ha (fun q => by injection q with q; injection q with q; cases q))).trans ho
  refine lv_aload_n hx hb dX6_init_15 rfl (lv_at hl 0 rfl) ?_
  refine lv_aload_n hx hb dX6_init_16 rfl (lv_at hl 1 rfl) ?_
  refine gf_X6_24 hx hb hts hown hK hH h3 rfl dX6_init_17 ?_
  refine pF_X6_28 hx hb hts hown hin hK hO hS hH h2 rfl (Nat.le_of_ble_eq_true rfl) rfl dX6_init_20 (fun H locs hH hS => ?_)
  obtain ⟨f5, ef5⟩ : ∃ zz_, zz_ = hm_up f1 a (eR 6 [.int n, .long bd, .int x3, .int x4]) := ⟨_, rfl⟩
  have hH : hm_H Γ f5 H := by rw [ef5]; exact hH
  have h6 : f5 a = some (eR 6 [.int n, .long bd, .int x3, .int x4]) := by rw [ef5]; exact hm_us
  have h7 : f5 ga = some (eR 3 [.ref o, .int pb, .long bd, .int z, .int sc, .int pc0, .int rw0, .int lr, .int pd, .int vd]) := by rw [ef5]; exact (hm_un (hm_ne h3 h2 (fun q => by injection q with q; injection q with q; cases q))).trans h3
  have h8 : f5 o = some (eR 4 [.int n, .int m1, .int m2]) := by rw [ef5]; exact (hm_un (hm_ne h4 h2 (fun q => by injection q with q; injection q with q; cases q))).trans h4
  refine lv_aload_n hx hb dX6_init_23 rfl (lv_at hl 0 rfl) ?_
  refine lv_aload_n hx hb dX6_init_24 rfl (lv_at hl 1 rfl) ?_
  refine gf_X6_29 hx hb hts hown hK hH h7 rfl dX6_init_25 ?_
  refine pF_X6_32 hx hb hts hown hin hK hO hS hH h6 rfl (Nat.le_of_ble_eq_true rfl) rfl dX6_init_28 (fun H locs hH hS => ?_)
  obtain ⟨f9, ef9⟩ : ∃ zz_, zz_ = hm_up f5 a (eR 6 [.int n, .long bd, .int z, .int x4]) := ⟨_, rfl⟩
  have hH : hm_H Γ f9 H := by rw [ef9]; exact hH
  have h10 : f9 a = some (eR 6 [.int n, .long bd, .int z, .int x4]) := by rw [ef9]; exact hm_us
  have h11 : f9 ga = some (eR 3 [.ref o, .int pb, .long bd, .int z, .int sc, .int pc0, .int rw0, .int lr, .int pd, .int vd]) := by rw [ef9]; exact (hm_un (hm_ne h7 h6 (fun q => by injection q with q; injection q with q; cases q))).trans h7
  have h12 : f9 o = some (eR 4 [.int n, .int m1, .int m2]) := by rw [ef9]; exact (hm_un (hm_ne h8 h6 (fun q => by injection q with q; injection q with q; cases q))).trans h8
  refine lv_aload_n hx hb dX6_init_31 rfl (lv_at hl 0 rfl) ?_
  refine lv_iload_n hx hb dX6_init_32 rfl (lv_at hl 2 rfl) ?_
  refine pF_X6_33 hx hb hts hown hin hK hO hS hH h10 rfl (Nat.le_of_ble_eq_true rfl) rfl dX6_init_33 (fun H locs hH hS => ?_)
  obtain ⟨f13, ef13⟩ : ∃ zz_, zz_ = hm_up f9 a (eR 6 [.int n, .long bd, .int z, .int pu]) := ⟨_, rfl⟩
  have hH : hm_H Γ f13 H := by rw [ef13]; exact hH
  have h14 : f13 a = some (eR 6 [.int n, .long bd, .int z, .int pu]) := by rw [ef13]; exact hm_us
  have h15 : f13 ga = some (eR 3 [.ref o, .int pb, .long bd, .int z, .int sc, .int pc0, .int rw0, .int lr, .int pd, .int vd]) := by rw [ef13]; exact (hm_un (hm_ne h11 h10 (fun q => by injection q with q; injection q with q; cases q))).trans h11
  have h16 : f13 o = some (eR 4 [.int n, .int m1, .int m2]) := by rw [ef13]; exact (hm_un (hm_ne h12 h10 (fun q => by injection q with q; injection q with q; cases q))).trans h12
  subst ef13
  subst ef9
  subst ef5
  subst ef1
  exact hm_vret hx hb hr hlocks hS hH (⟨rfl, by simp only [hm_uu]⟩) (Nat.le_of_ble_eq_true rfl) (Nat.le_of_ble_eq_true rfl) dX6_init_36
/-- the board and the z of a new game -/
def newB (z : Nat) : Nat → Nat := drawT (drawT (fun _ => 0) z) (nxt (nxt z))
def newZ (z : Nat) : Nat := nxt (nxt (nxt (nxt z)))
set_option maxHeartbeats 4000000 in
set_option maxRecDepth 100000 in
theorem c_X3_init (Γ : Gm) (l : Launch) (a o z : Nat) (pb sc pc0 rw0 lr pd vd nu zz : Int32) (bd : Int64) (f : Hm) (ha : f a = some (eR 3 [.null, .int pb, .long bd, .int zz, .int sc, .int pc0, .int rw0, .int lr, .int pd, .int vd])) : Ct Γ l yX3_init cX3_init 5 (none : Option Jvm.ClassFile.FieldType) 4 0 0 [.ref a, .ref o, .int nu, .int (nI z)] f (pV (hm_up f a (eR 3 [.ref o, .int (1 <<< (nu &&& 31)), .long (b5 (newB z)), .int (nI (newZ z)), .int 0, .int 0, .int 0, .int 0, .int 0, .int 0]))) := by
  refine Ct_of (by decide +kernel) (Nat.le_of_ble_eq_true rfl) ?_
  intro p e s m args below meth c hx hb hr hml hown hin hlocks hts hH hO hK ls hl
  have hl : lv_has ls 5 [(0, .ref a), (1, .ref o), (2, .int nu), (3, .int (nI z))] := hl
  have hS : va_S (gA Γ) s.heap s.heap [] := va_S.rf
  refine lv_aload_n hx hb dX3_init_0 rfl (lv_at hl 0 rfl) ?_
  refine W.objInit hx hb hown (hts _ q3_10) (hts _ q1_48) (hts _ q1_49) rfl (by rw [hml]; exact hl.1) rfl dX3_init_1 (Nat.le_of_ble_eq_true rfl) (Nat.le_of_ble_eq_true rfl) ?_
  refine W.eq (g2 := F0 m 4 ls []) rfl ?_
  refine lv_aload_n hx hb dX3_init_4 rfl (lv_at hl 0 rfl) ?_
  refine lv_iconst (v := 0) hx hb dX3_init_5 (by decide) ?_
  refine pf_X3_7 hx hb hts hown hK hO hS hH ha rfl (Nat.le_of_ble_eq_true rfl) rfl dX3_init_6 (fun H locs hH hS => ?_)
  obtain ⟨f1, ef1⟩ : ∃ zz_, zz_ = hm_up f a (eR 3 [.null, .int pb, .long bd, .int zz, .int 0, .int pc0, .int rw0, .int lr, .int pd, .int vd]) := ⟨_, rfl⟩
  have hH : hm_H Γ f1 H := by rw [ef1]; exact hH
  have h2 : f1 a = some (eR 3 [.null, .int pb, .long bd, .int zz, .int 0, .int pc0, .int rw0, .int lr, .int pd, .int vd]) := by rw [ef1]; exact hm_us
  refine lv_aload_n hx hb dX3_init_9 rfl (lv_at hl 0 rfl) ?_
  refine lv_iconst (v := 0) hx hb dX3_init_10 (by decide) ?_
  refine pf_X3_13 hx hb hts hown hK hO hS hH h2 rfl (Nat.le_of_ble_eq_true rfl) rfl dX3_init_11 (fun H locs hH hS => ?_)
  obtain ⟨f3, ef3⟩ : ∃ zz_, zz_ = hm_up f1 a (eR 3 [.null, .int pb, .long bd, .int zz, .int 0, .int 0, .int rw0, .int lr, .int pd, .int vd]) := ⟨_, rfl⟩
  have hH : hm_H Γ f3 H := by rw [ef3]; exact hH
  have h4 : f3 a = some (eR 3 [.null, .int pb, .long bd, .int zz, .int 0, .int 0, .int rw0, .int lr, .int pd, .int vd]) := by rw [ef3]; exact hm_us
  refine lv_aload_n hx hb dX3_init_14 rfl (lv_at hl 0 rfl) ?_
  refine lv_iconst (v := 0) hx hb dX3_init_15 (by decide) ?_
  refine pf_X3_16 hx hb hts hown hK hO hS hH h4 rfl (Nat.le_of_ble_eq_true rfl) rfl dX3_init_16 (fun H locs hH hS => ?_)
  obtain ⟨f5, ef5⟩ : ∃ zz_, zz_ = hm_up f3 a (eR 3 [.null, .int pb, .long bd, .int zz, .int 0, .int 0, .int 0, .int lr, .int pd, .int vd]) := ⟨_, rfl⟩
  have hH : hm_H Γ f5 H := by rw [ef5]; exact hH
  have h6 : f5 a = some (eR 3 [.null, .int pb, .long bd, .int zz, .int 0, .int 0, .int 0, .int lr, .int pd, .int vd]) := by rw [ef5]; exact hm_us
  refine lv_aload_n hx hb dX3_init_19 rfl (lv_at hl 0 rfl) ?_
  refine lv_iconst (v := 0) hx hb dX3_init_20 (by decide) ?_
  refine pf_X3_19 hx hb hts hown hK hO hS hH h6 rfl (Nat.le_of_ble_eq_true rfl) rfl dX3_init_21 (fun H locs hH hS => ?_)
  obtain ⟨f7, ef7⟩ : ∃ zz_, zz_ = hm_up f5 a (eR 3 [.null, .int pb, .long bd, .int zz, .int 0, .int 0, .int 0, .int 0, .int pd, .int vd]) := ⟨_, rfl⟩
  have hH : hm_H Γ f7 H := by rw [ef7]; exact hH
  have h8 : f7 a = some (eR 3 [.null, .int pb, .long bd, .int zz, .int 0, .int 0, .int 0, .int 0, .int pd, .int vd]) := by rw [ef7]; exact hm_us
  refine lv_aload_n hx hb dX3_init_24 rfl (lv_at hl 0 rfl) ?_
  refine lv_iconst (v := 0) hx hb dX3_init_25 (by decide) ?_
  refine pf_X3_22 hx hb hts hown hK hO hS hH h8 rfl (Nat.le_of_ble_eq_true rfl) rfl dX3_init_26 (fun H locs hH hS => ?_)
  obtain ⟨f9, ef9⟩ : ∃ zz_, zz_ = hm_up f7 a (eR 3 [.null, .int pb, .long bd, .int zz, .int 0, .int 0, .int 0, .int 0, .int 0, .int vd]) := ⟨_, rfl⟩
  have hH : hm_H Γ f9 H := by rw [ef9]; exact hH
  have h10 : f9 a = some (eR 3 [.null, .int pb, .long bd, .int zz, .int 0, .int 0, .int 0, .int 0, .int 0, .int vd]) := by rw [ef9]; exact hm_us
  refine lv_aload_n hx hb dX3_init_29 rfl (lv_at hl 0 rfl) ?_
  refine lv_iconst (v := 0) hx hb dX3_init_30 (by decide) ?_
  refine pf_X3_25 hx hb hts hown hK hO hS hH h10 rfl (Nat.le_of_ble_eq_true rfl) rfl dX3_init_31 (fun H locs hH hS => ?_)
  obtain ⟨f11, ef11⟩ : ∃ zz_, zz_ = hm_up f9 a (eR 3 [.null, .int pb, .long bd, .int zz, .int 0, .int 0, .int 0, .int 0, .int 0, .int 0]) := ⟨_, rfl⟩
  have hH : hm_H Γ f11 H := by rw [ef11]; exact hH
  have h12 : f11 a = some (eR 3 [.null, .int pb, .long bd, .int zz, .int 0, .int 0, .int 0, .int 0, .int 0, .int 0]) := by rw [ef11]; exact hm_us
  refine lv_aload_n hx hb dX3_init_34 rfl (lv_at hl 0 rfl) ?_
  refine lv_aload_n hx hb dX3_init_35 rfl (lv_at hl 1 rfl) ?_
  refine pF_X3_29 hx hb hts hown hin hK hO hS hH h12 rfl (Nat.le_of_ble_eq_true rfl) rfl dX3_init_36 (fun H locs hH hS => ?_)
  obtain ⟨f13, ef13⟩ : ∃ zz_, zz_ = hm_up f11 a (eR 3 [.ref o, .int pb, .long bd, .int zz, .int 0, .int 0, .int 0, .int 0, .int 0, .int 0]) := ⟨_, rfl⟩
  have hH : hm_H Γ f13 H := by rw [ef13]; exact hH
  have h14 : f13 a = some (eR 3 [.ref o, .int pb, .long bd, .int zz, .int 0, .int 0, .int 0, .int 0, .int 0, .int 0]) := by rw [ef13]; exact hm_us
  refine lv_aload_n hx hb dX3_init_39 rfl (lv_at hl 0 rfl) ?_
  refine lv_iconst (v := 1) hx hb dX3_init_40 (by decide) ?_
  refine lv_iload_n hx hb dX3_init_41 rfl (lv_at hl 2 rfl) ?_
  refine lv_ishl hx hb dX3_init_42 ?_
  refine lv_topi (fun v15 ev15 => ?_)
  refine pF_X3_33 hx hb hts hown hin hK hO hS hH h14 rfl (Nat.le_of_ble_eq_true rfl) rfl dX3_init_43 (fun H locs hH hS => ?_)
  obtain ⟨f16, ef16⟩ : ∃ zz_, zz_ = hm_up f13 a (eR 3 [.ref o, .int v15, .long bd, .int zz, .int 0, .int 0, .int 0, .int 0, .int 0, .int 0]) := ⟨_, rfl⟩
  have hH : hm_H Γ f16 H := by rw [ef16]; exact hH
  have h17 : f16 a = some (eR 3 [.ref o, .int v15, .long bd, .int zz, .int 0, .int 0, .int 0, .int 0, .int 0, .int 0]) := by rw [ef16]; exact hm_us
  refine lv_iload_n hx hb dX3_init_46 rfl (lv_at hl 3 rfl) ?_
  refine hm_callS (rest := []) (k := 2) q3_11 q3_12 q1_24 q3_13 nm_X0_drawnZ rfl hx hb hml hown hts hK hO hS hH hl.1 (c_X0_drawnZ Γ l z _) ⟨Nat.le_of_ble_eq_true rfl, Nat.le_of_ble_eq_true rfl⟩ ⟨Nat.le_of_ble_eq_true rfl, Nat.le_of_ble_eq_true rfl⟩ rfl (Nat.le_of_ble_eq_true rfl) dX3_init_47 (fun v_ f_ H locs hp_ hH hS => ?_)
  obtain ⟨rfl, ef_⟩ := hp_
  rw [ef_] at hH
  clear ef_
  refine W.eq (g2 := F0 m 50 ls [.int (nI (nxt (nxt z)))]) rfl ?_
  refine lv_istore (lv' := [(4, .int (nI (nxt (nxt z)))), (0, .ref a), (1, .ref o), (2, .int nu), (3, .int (nI z))]) hx hb dX3_init_50 hl (by decide) rfl (fun ls hl => ?_)
  refine lv_aload_n hx hb dX3_init_52 rfl (lv_at hl 1 rfl) ?_
  refine lv_lconst (v := 0) hx hb dX3_init_53 (by decide) ?_
  refine lv_iload_n hx hb dX3_init_54 rfl (lv_at hl 4 rfl) ?_
  refine W.eq (g2 := F0 m 55 ls [.int (nI z), .long (b5 (fun _ => 0)), .ref a]) (by rw [← b5_0]) ?_
  refine hm_callS (rest := [.ref a]) (k := 3) q3_19 q3_20 q1_24 q3_21 nm_X0_drawn rfl hx hb hml hown hts hK hO hS hH hl.1 (c_X0_drawn Γ l (fun _ => 0) z _ (fun _ _ => by show 0 < _; omega)) ⟨Nat.le_of_ble_eq_true rfl, Nat.le_of_ble_eq_true rfl⟩ ⟨Nat.le_of_ble_eq_true rfl, Nat.le_of_ble_eq_true rfl⟩ rfl (Nat.le_of_ble_eq_true rfl) dX3_init_55 (fun v_ f_ H locs hp_ hH hS => ?_)
  obtain ⟨rfl, ef_⟩ := hp_
  rw [ef_] at hH
  clear ef_
  refine W.eq (g2 := F0 m 58 ls [.long (b5 (drawT (fun _ => 0) z)), .ref a]) rfl ?_
  refine lv_iload hx hb dX3_init_58 (lv_at hl 0 rfl) ?_
  refine hm_callS (rest := [.ref a]) (k := 3) q3_19 q3_20 q1_24 q3_21 nm_X0_drawn rfl hx hb hml hown hts hK hO hS hH hl.1 (c_X0_drawn Γ l (drawT (fun _ => 0) z) (nxt (nxt z)) _ (drawT_lt (fun _ _ => by show 0 < _; omega) (by decide) _)) ⟨Nat.le_of_ble_eq_true rfl, Nat.le_of_ble_eq_true rfl⟩ ⟨Nat.le_of_ble_eq_true rfl, Nat.le_of_ble_eq_true rfl⟩ rfl (Nat.le_of_ble_eq_true rfl) dX3_init_60 (fun v_ f_ H locs hp_ hH hS => ?_)
  obtain ⟨rfl, ef_⟩ := hp_
  rw [ef_] at hH
  clear ef_
  refine W.eq (g2 := F0 m 63 ls [.long (b5 (drawT (drawT (fun _ => 0) z) (nxt (nxt z)))), .ref a]) rfl ?_
  refine pf_X3_46 hx hb hts hown hK hO hS hH h17 rfl (Nat.le_of_ble_eq_true rfl) rfl dX3_init_63 (fun H locs hH hS => ?_)
  obtain ⟨f18, ef18⟩ : ∃ zz_, zz_ = hm_up f16 a (eR 3 [.ref o, .int v15, .long (b5 (drawT (drawT (fun _ => 0) z) (nxt (nxt z)))), .int zz, .int 0, .int 0, .int 0, .int 0, .int 0, .int 0]) := ⟨_, rfl⟩
  have hH : hm_H Γ f18 H := by rw [ef18]; exact hH
  have h19 : f18 a = some (eR 3 [.ref o, .int v15, .long (b5 (drawT (drawT (fun _ => 0) z) (nxt (nxt z)))), .int zz, .int 0, .int 0, .int 0, .int 0, .int 0, .int 0]) := by rw [ef18]; exact hm_us
  refine lv_aload_n hx hb dX3_init_66 rfl (lv_at hl 1 rfl) ?_
  refine lv_iload hx hb dX3_init_67 (lv_at hl 0 rfl) ?_
  refine hm_callS (rest := [.ref a]) (k := 2) q3_11 q3_12 q1_24 q3_13 nm_X0_drawnZ rfl hx hb hml hown hts hK hO hS hH hl.1 (c_X0_drawnZ Γ l (nxt (nxt z)) _) ⟨Nat.le_of_ble_eq_true rfl, Nat.le_of_ble_eq_true rfl⟩ ⟨Nat.le_of_ble_eq_true rfl, Nat.le_of_ble_eq_true rfl⟩ rfl (Nat.le_of_ble_eq_true rfl) dX3_init_69 (fun v_ f_ H locs hp_ hH hS => ?_)
  obtain ⟨rfl, ef_⟩ := hp_
  rw [ef_] at hH
  clear ef_
  refine W.eq (g2 := F0 m 72 ls [.int (nI (nxt (nxt (nxt (nxt z))))), .ref a]) rfl ?_
  refine pf_X3_50 hx hb hts hown hK hO hS hH h19 rfl (Nat.le_of_ble_eq_true rfl) rfl dX3_init_72 (fun H locs hH hS => ?_)
  obtain ⟨f20, ef20⟩ : ∃ zz_, zz_ = hm_up f18 a (eR 3 [.ref o, .int v15, .long (b5 (drawT (drawT (fun _ => 0) z) (nxt (nxt z)))), .int (nI (nxt (nxt (nxt (nxt z))))), .int 0, .int 0, .int 0, .int 0, .int 0, .int 0]) := ⟨_, rfl⟩
  have hH : hm_H Γ f20 H := by rw [ef20]; exact hH
  have h21 : f20 a = some (eR 3 [.ref o, .int v15, .long (b5 (drawT (drawT (fun _ => 0) z) (nxt (nxt z)))), .int (nI (nxt (nxt (nxt (nxt z))))), .int 0, .int 0, .int 0, .int 0, .int 0, .int 0]) := by rw [ef20]; exact hm_us
  subst ef20
  subst ef18
  subst ef16
  subst ev15
  subst ef13
  subst ef11
  subst ef9
  subst ef7
  subst ef5
  subst ef3
  subst ef1
  exact hm_vret hx hb hr hlocks hS hH (⟨rfl, by simp only [hm_uu]; rfl⟩) (Nat.le_of_ble_eq_true rfl) (Nat.le_of_ble_eq_true rfl) dX3_init_75
set_option maxHeartbeats 4000000 in
set_option maxRecDepth 100000 in
theorem c_X3_go (Γ : Gm) (l : Launch) (a o to z : Nat) (t : Nat → Nat) (pb sc pc0 rw0 lr pd vd : Int32) (f : Hm) (ht : tl 31 t) (hto : to < 4) (ha : f a = some (eR 3 [.ref o, .int pb, .long (b5 t), .int (nI z), .int sc, .int pc0, .int rw0, .int lr, .int pd, .int vd])) : Ct Γ l yX3_go cX3_go 3 (some .int) 5 0 0 [.ref a, .int (nI to)] f (fun v f' => v = some (.int (nI (gainT t to))) ∧ f' = hm_up f a (eR 3 [.ref o, .int pb, .long (b5 (drawT (pushT t to) z)), .int (nI (nxt (nxt z))), .int (sc + nI (gainT t to)), .int (pc0 + 1), .int rw0, .int lr, .int pd, .int vd])) := by
  refine Ct_of (by decide +kernel) (Nat.le_of_ble_eq_true rfl) ?_
  intro p e s m args below meth c hx hb hr hml hown hin hlocks hts hH hO hK ls hl
  have hl : lv_has ls 3 [(0, .ref a), (1, .int (nI to))] := hl
  have hS : va_S (gA Γ) s.heap s.heap [] := va_S.rf
  refine lv_aload_n hx hb dX3_go_0 rfl (lv_at hl 0 rfl) ?_
  refine gf_X3_46 hx hb hts hown hK hH ha rfl dX3_go_1 ?_
  refine lv_iload_n hx hb dX3_go_4 rfl (lv_at hl 1 rfl) ?_
  refine hm_callS (rest := []) (k := 3) q3_140 q3_141 q1_24 q3_142 nm_X0_gainOf rfl hx hb hml hown hts hK hO hS hH hl.1 (c_X0_gainOf Γ l t to _ ht hto) ⟨Nat.le_of_ble_eq_true rfl, Nat.le_of_ble_eq_true rfl⟩ ⟨Nat.le_of_ble_eq_true rfl, Nat.le_of_ble_eq_true rfl⟩ rfl (Nat.le_of_ble_eq_true rfl) dX3_go_5 (fun v_ f_ H locs hp_ hH hS => ?_)
  obtain ⟨rfl, ef_⟩ := hp_
  rw [ef_] at hH
  clear ef_
  refine W.eq (g2 := F0 m 8 ls [.int (nI (gainT t to))]) rfl ?_
  refine lv_istore_n (lv' := [(2, .int (nI (gainT t to))), (0, .ref a), (1, .int (nI to))]) hx hb dX3_go_8 rfl hl (by decide) rfl (fun ls hl => ?_)
  refine lv_aload_n hx hb dX3_go_9 rfl (lv_at hl 1 rfl) ?_
  refine lv_aload_n hx hb dX3_go_10 rfl (lv_at hl 1 rfl) ?_
  refine gf_X3_46 hx hb hts hown hK hH ha rfl dX3_go_11 ?_
  refine lv_iload_n hx hb dX3_go_14 rfl (lv_at hl 2 rfl) ?_
  refine hm_callS (rest := [.ref a]) (k := 4) q3_143 q3_93 q1_24 q3_94 nm_X0_pushed rfl hx hb hml hown hts hK hO hS hH hl.1 (c_X0_pushed Γ l t to _ ht hto) ⟨Nat.le_of_ble_eq_true rfl, Nat.le_of_ble_eq_true rfl⟩ ⟨Nat.le_of_ble_eq_true rfl, Nat.le_of_ble_eq_true rfl⟩ rfl (Nat.le_of_ble_eq_true rfl) dX3_go_15 (fun v_ f_ H locs hp_ hH hS => ?_)
  obtain ⟨rfl, ef_⟩ := hp_
  rw [ef_] at hH
  clear ef_
  refine W.eq (g2 := F0 m 18 ls [.long (b5 (pushT t to)), .ref a]) rfl ?_
  refine lv_aload_n hx hb dX3_go_18 rfl (lv_at hl 1 rfl) ?_
  refine gf_X3_50 hx hb hts hown hK hH ha rfl dX3_go_19 ?_
  refine hm_callS (rest := [.ref a]) (k := 3) q3_19 q3_20 q1_24 q3_21 nm_X0_drawn rfl hx hb hml hown hts hK hO hS hH hl.1 (c_X0_drawn Γ l (pushT t to) z _ (pushT_lt ht hto)) ⟨Nat.le_of_ble_eq_true rfl, Nat.le_of_ble_eq_true rfl⟩ ⟨Nat.le_of_ble_eq_true rfl, Nat.le_of_ble_eq_true rfl⟩ rfl (Nat.le_of_ble_eq_true rfl) dX3_go_22 (fun v_ f_ H locs hp_ hH hS => ?_)
  obtain ⟨rfl, ef_⟩ := hp_
  rw [ef_] at hH
  clear ef_
  refine W.eq (g2 := F0 m 25 ls [.long (b5 (drawT (pushT t to) z)), .ref a]) rfl ?_
  refine pf_X3_46 hx hb hts hown hK hO hS hH ha rfl (Nat.le_of_ble_eq_true rfl) rfl dX3_go_25 (fun H locs hH hS => ?_)
  obtain ⟨f1, ef1⟩ : ∃ zz_, zz_ = hm_up f a (eR 3 [.ref o, .int pb, .long (b5 (drawT (pushT t to) z)), .int (nI z), .int sc, .int pc0, .int rw0, .int lr, .int pd, .int vd]) := ⟨_, rfl⟩
  have hH : hm_H Γ f1 H := by rw [ef1]; exact hH
  have h2 : f1 a = some (eR 3 [.ref o, .int pb, .long (b5 (drawT (pushT t to) z)), .int (nI z), .int sc, .int pc0, .int rw0, .int lr, .int pd, .int vd]) := by rw [ef1]; exact hm_us
  refine lv_aload_n hx hb dX3_go_28 rfl (lv_at hl 1 rfl) ?_
  refine lv_aload_n hx hb dX3_go_29 rfl (lv_at hl 1 rfl) ?_
  refine gf_X3_50 hx hb hts hown hK hH h2 rfl dX3_go_30 ?_
  refine hm_callS (rest := [.ref a]) (k := 2) q3_11 q3_12 q1_24 q3_13 nm_X0_drawnZ rfl hx hb hml hown hts hK hO hS hH hl.1 (c_X0_drawnZ Γ l z _) ⟨Nat.le_of_ble_eq_true rfl, Nat.le_of_ble_eq_true rfl⟩ ⟨Nat.le_of_ble_eq_true rfl, Nat.le_of_ble_eq_true rfl⟩ rfl (Nat.le_of_ble_eq_true rfl) dX3_go_33 (fun v_ f_ H locs hp_ hH hS => ?_)
  obtain ⟨rfl, ef_⟩ := hp_
  rw [ef_] at hH
  clear ef_
  refine W.eq (g2 := F0 m 36 ls [.int (nI (nxt (nxt z))), .ref a]) rfl ?_
  refine pf_X3_50 hx hb hts hown hK hO hS hH h2 rfl (Nat.le_of_ble_eq_true rfl) rfl dX3_go_36 (fun H locs hH hS => ?_)
  obtain ⟨f3, ef3⟩ : ∃ zz_, zz_ = hm_up f1 a (eR 3 [.ref o, .int pb, .long (b5 (drawT (pushT t to) z)), .int (nI (nxt (nxt z))), .int sc, .int pc0, .int rw0, .int lr, .int pd, .int vd]) := ⟨_, rfl⟩
  have hH : hm_H Γ f3 H := by rw [ef3]; exact hH
  have h4 : f3 a = some (eR 3 [.ref o, .int pb, .long (b5 (drawT (pushT t to) z)), .int (nI (nxt (nxt z))), .int sc, .int pc0, .int rw0, .int lr, .int pd, .int vd]) := by rw [ef3]; exact hm_us
  refine lv_aload_n hx hb dX3_go_39 rfl (lv_at hl 1 rfl) ?_
  refine lv_dup hx hb dX3_go_40 rfl ?_
  refine gf_X3_7 hx hb hts hown hK hH h4 rfl dX3_go_41 ?_
  refine lv_iload_n hx hb dX3_go_44 rfl (lv_at hl 0 rfl) ?_
  refine lv_iadd hx hb dX3_go_45 ?_
  refine lv_topi (fun v5 ev5 => ?_)
  refine pf_X3_7 hx hb hts hown hK hO hS hH h4 rfl (Nat.le_of_ble_eq_true rfl) rfl dX3_go_46 (fun H locs hH hS => ?_)
  obtain ⟨f6, ef6⟩ : ∃ zz_, zz_ = hm_up f3 a (eR 3 [.ref o, .int pb, .long (b5 (drawT (pushT t to) z)), .int (nI (nxt (nxt z))), .int v5, .int pc0, .int rw0, .int lr, .int pd, .int vd]) := ⟨_, rfl⟩
  have hH : hm_H Γ f6 H := by rw [ef6]; exact hH
  have h7 : f6 a = some (eR 3 [.ref o, .int pb, .long (b5 (drawT (pushT t to) z)), .int (nI (nxt (nxt z))), .int v5, .int pc0, .int rw0, .int lr, .int pd, .int vd]) := by rw [ef6]; exact hm_us
  refine lv_aload_n hx hb dX3_go_49 rfl (lv_at hl 1 rfl) ?_
  refine lv_dup hx hb dX3_go_50 rfl ?_
  refine gf_X3_13 hx hb hts hown hK hH h7 rfl dX3_go_51 ?_
  refine lv_iconst (v := 1) hx hb dX3_go_54 (by decide) ?_
  refine lv_iadd hx hb dX3_go_55 ?_
  refine lv_topi (fun v8 ev8 => ?_)
  refine pf_X3_13 hx hb hts hown hK hO hS hH h7 rfl (Nat.le_of_ble_eq_true rfl) rfl dX3_go_56 (fun H locs hH hS => ?_)
  obtain ⟨f9, ef9⟩ : ∃ zz_, zz_ = hm_up f6 a (eR 3 [.ref o, .int pb, .long (b5 (drawT (pushT t to) z)), .int (nI (nxt (nxt z))), .int v5, .int v8, .int rw0, .int lr, .int pd, .int vd]) := ⟨_, rfl⟩
  have hH : hm_H Γ f9 H := by rw [ef9]; exact hH
  have h10 : f9 a = some (eR 3 [.ref o, .int pb, .long (b5 (drawT (pushT t to) z)), .int (nI (nxt (nxt z))), .int v5, .int v8, .int rw0, .int lr, .int pd, .int vd]) := by rw [ef9]; exact hm_us
  refine lv_iload_n hx hb dX3_go_59 rfl (lv_at hl 0 rfl) ?_
  subst ef9
  subst ev8
  subst ef6
  subst ev5
  subst ef3
  subst ef1
  exact hm_iret hx hb hr hlocks hS hH (⟨rfl, by simp only [hm_uu]⟩) (Nat.le_of_ble_eq_true rfl) (Nat.le_of_ble_eq_true rfl) dX3_go_60
set_option maxHeartbeats 4000000 in
set_option maxRecDepth 100000 in
theorem c_X3_noteFollowing (Γ : Gm) (l : Launch) (a o : Nat) (bd : Int64) (z pb sc pc0 rw0 lr pd vd : Int32) (b : Bool) (f : Hm) (ha : f a = some (eR 3 [.ref o, .int pb, .long bd, .int z, .int sc, .int pc0, .int rw0, .int lr, .int pd, .int vd])) : Ct Γ l yX3_noteFollowing cX3_noteFollowing 2 (none : Option Jvm.ClassFile.FieldType) 2 0 0 [.ref a, .int (bI b)] f (pV (hm_up f a (eR 3 [.ref o, .int pb, .long bd, .int z, .int sc, .int pc0, .int (if b then rw0 + 1 else 0), .int (mxI lr (if b then rw0 + 1 else 0)), .int pd, .int vd]))) := by
  refine Ct_of (by decide +kernel) (Nat.le_of_ble_eq_true rfl) ?_
  intro p e s m args below meth c hx hb hr hml hown hin hlocks hts hH hO hK ls hl
  have hl : lv_has ls 2 [(0, .ref a), (1, .int (bI b))] := hl
  have hS : va_S (gA Γ) s.heap s.heap [] := va_S.rf
  refine lv_aload_n hx hb dX3_noteFollowing_0 rfl (lv_at hl 0 rfl) ?_
  refine lv_iload_n hx hb dX3_noteFollowing_1 rfl (lv_at hl 1 rfl) ?_
  refine lv_if_eq (tgt := 14) hx hb dX3_noteFollowing_2 (by decide) (fun c1 => ?_) (fun c1 => ?_)
  · refine lv_iconst (v := 0) hx hb dX3_noteFollowing_14 (by decide) ?_
    refine pf_X3_16 hx hb hts hown hK hO hS hH ha rfl (Nat.le_of_ble_eq_true rfl) rfl dX3_noteFollowing_15 (fun H locs hH hS => ?_)
    obtain ⟨f2, ef2⟩ : ∃ zz_, zz_ = hm_up f a (eR 3 [.ref o, .int pb, .long bd, .int z, .int sc, .int pc0, .int 0, .int lr, .int pd, .int vd]) := ⟨_, rfl⟩
    have hH : hm_H Γ f2 H := by rw [ef2]; exact hH
    have h3 : f2 a = some (eR 3 [.ref o, .int pb, .long bd, .int z, .int sc, .int pc0, .int 0, .int lr, .int pd, .int vd]) := by rw [ef2]; exact hm_us
    refine lv_aload_n hx hb dX3_noteFollowing_18 rfl (lv_at hl 0 rfl) ?_
    refine lv_aload_n hx hb dX3_noteFollowing_19 rfl (lv_at hl 0 rfl) ?_
    refine gf_X3_19 hx hb hts hown hK hH h3 rfl dX3_noteFollowing_20 ?_
    refine lv_aload_n hx hb dX3_noteFollowing_23 rfl (lv_at hl 0 rfl) ?_
    refine gf_X3_16 hx hb hts hown hK hH h3 rfl dX3_noteFollowing_24 ?_
    refine hm_max (rest := [.ref a]) hx hb hml hl.1 hown hts q3_135 (Nat.le_of_ble_eq_true rfl) (Nat.le_of_ble_eq_true rfl) (by first | exact Nat.le_of_ble_eq_true rfl | omega) (by first | exact Nat.le_of_ble_eq_true rfl | omega) dX3_noteFollowing_27 ?_
    refine pf_X3_19 hx hb hts hown hK hO hS hH h3 rfl (Nat.le_of_ble_eq_true rfl) rfl dX3_noteFollowing_30 (fun H locs hH hS => ?_)
    obtain ⟨f4, ef4⟩ : ∃ zz_, zz_ = hm_up f2 a (eR 3 [.ref o, .int pb, .long bd, .int z, .int sc, .int pc0, .int 0, .int (mxI lr 0), .int pd, .int vd]) := ⟨_, rfl⟩
    have hH : hm_H Γ f4 H := by rw [ef4]; exact hH
    have h5 : f4 a = some (eR 3 [.ref o, .int pb, .long bd, .int z, .int sc, .int pc0, .int 0, .int (mxI lr 0), .int pd, .int vd]) := by rw [ef4]; exact hm_us
    subst ef4
    subst ef2
    exact hm_vret hx hb hr hlocks hS hH (⟨rfl, by simp only [hm_uu]; rw [bI_0.mp c1]; rfl⟩) (Nat.le_of_ble_eq_true rfl) (Nat.le_of_ble_eq_true rfl) dX3_noteFollowing_33
  · refine lv_aload_n hx hb dX3_noteFollowing_5 rfl (lv_at hl 0 rfl) ?_
    refine gf_X3_16 hx hb hts hown hK hH ha rfl dX3_noteFollowing_6 ?_
    refine lv_iconst (v := 1) hx hb dX3_noteFollowing_9 (by decide) ?_
    refine lv_iadd hx hb dX3_noteFollowing_10 ?_
    refine lv_topi (fun v6 ev6 => ?_)
    refine lv_goto (tgt := 15) hx hb dX3_noteFollowing_11 (by decide) ?_
    refine pf_X3_16 hx hb hts hown hK hO hS hH ha rfl (Nat.le_of_ble_eq_true rfl) rfl dX3_noteFollowing_15 (fun H locs hH hS => ?_)
    obtain ⟨f7, ef7⟩ : ∃ zz_, zz_ = hm_up f a (eR 3 [.ref o, .int pb, .long bd, .int z, .int sc, .int pc0, .int v6, .int lr, .int pd, .int vd]) := ⟨_, rfl⟩
    have hH : hm_H Γ f7 H := by rw [ef7]; exact hH
    have h8 : f7 a = some (eR 3 [.ref o, .int pb, .long bd, .int z, .int sc, .int pc0, .int v6, .int lr, .int pd, .int vd]) := by rw [ef7]; exact hm_us
    refine lv_aload_n hx hb dX3_noteFollowing_18 rfl (lv_at hl 0 rfl) ?_
    refine lv_aload_n hx hb dX3_noteFollowing_19 rfl (lv_at hl 0 rfl) ?_
    refine gf_X3_19 hx hb hts hown hK hH h8 rfl dX3_noteFollowing_20 ?_
    refine lv_aload_n hx hb dX3_noteFollowing_23 rfl (lv_at hl 0 rfl) ?_
    refine gf_X3_16 hx hb hts hown hK hH h8 rfl dX3_noteFollowing_24 ?_
    refine hm_max (rest := [.ref a]) hx hb hml hl.1 hown hts q3_135 (Nat.le_of_ble_eq_true rfl) (Nat.le_of_ble_eq_true rfl) (by first | exact Nat.le_of_ble_eq_true rfl | omega) (by first | exact Nat.le_of_ble_eq_true rfl | omega) dX3_noteFollowing_27 ?_
    refine pf_X3_19 hx hb hts hown hK hO hS hH h8 rfl (Nat.le_of_ble_eq_true rfl) rfl dX3_noteFollowing_30 (fun H locs hH hS => ?_)
    obtain ⟨f9, ef9⟩ : ∃ zz_, zz_ = hm_up f7 a (eR 3 [.ref o, .int pb, .long bd, .int z, .int sc, .int pc0, .int v6, .int (mxI lr v6), .int pd, .int vd]) := ⟨_, rfl⟩
    have hH : hm_H Γ f9 H := by rw [ef9]; exact hH
    have h10 : f9 a = some (eR 3 [.ref o, .int pb, .long bd, .int z, .int sc, .int pc0, .int v6, .int (mxI lr v6), .int pd, .int vd]) := by rw [ef9]; exact hm_us
    subst ef9
    subst ef7
    subst ev6
    exact hm_vret hx hb hr hlocks hS hH (⟨rfl, by simp only [hm_uu]; rw [bI_n.mp c1]; rfl⟩) (Nat.le_of_ble_eq_true rfl) (Nat.le_of_ble_eq_true rfl) dX3_noteFollowing_33
